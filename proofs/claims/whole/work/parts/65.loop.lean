/-! THE CLAIM OUT OF ONE WALK OF THE LAW'S BODY. Your part is whole_start (and what it stands on); all else here is the same for every law, but numbers. -/
def R_law : String := "SleepRoadsLaw"
def lw_P (b : Addr) (xs : List Int32) (args : Array Value) (s : State) : Prop := args = #[.ref b] ∧ s.IntsAt b xs ∧ xs.length ≤ 448 ∧ (Jvm.Cond.and given_1 narrow_1).before args s = true
def lw_Q (_ : Array Value) (s : State) (o : Outcome) (t : State) : Prop := o = .returned (some (.int 1)) ∧ Framed s o t [] 600000 7302250
def lw_Z (below : List Frame) (a : Array Value) (s : State) : State → Prop := fun t => ∃ o, t.status = .running ∧ Ended t below o ∧ lw_Q a s o t
/-- the law's own end, with 1 on the stack, nothing written that was there before, its room as the claim has it -/
theorem lw_ret {p : Program} {l : Launch} {e : Env} {s : State} {m : MethodId} {below : List Frame} {meth : Method} {c : Code} {b : Nat} (hx : p.tables.exec = Jvm.exec) (hb : c.code = code) (hr : meth.sig.returnType = ret) (hlocks : meth.locks = false) {pc : Nat} {H : Heap} {ls : Array Slot} (hdg : decode code pc = .ok (.ireturn, 1)) : W p l e room_1 s m #[Value.ref b] below meth c H [] 600000 7302250 (lw_Z below #[Value.ref b] s) (F0 m pc ls [.int 1]) := by
  intro T hT X
  obtain ⟨fs, hret, hrun, hended, hW, hframe⟩ := X.leave (v := some (.int 1)) (hlocks := hlocks) (fun h => by rw [hr] at h; cases h)
  have hmeth' : T.vm.method? m = some meth := X.method'
  refine ⟨T.setFrames fs, ?_, .returned (some (.int 1)), hrun, hended, rfl, ⟨_, rfl⟩, hW, hframe⟩
  jvm_step X.here [X.here.top, hx, hb, hdg, hmeth', hr, ret, narrow_b1]
  (try refine ⟨rfl, ?_⟩); (try refine ⟨rfl, ?_⟩)
  first | (intro acts; rw [hret _ acts rfl rfl rfl]) | rw [hret _ _ rfl rfl rfl]
  exact Steps.refl _
/-- what holds at the law's entry: the machine, the code, the tables' words (any of lw_tbl by 'hts w (by decide +kernel)'), the script of L ints xs at the cell b, what the Statement gives of the start (any of its parts by flat_of_before) -/
def lw_At (p : Program) (s : State) (m : MethodId) (meth : Method) (c : Code) (b L : Nat) (xs : Nat → Int32) : Prop :=
  p.tables.exec = Jvm.exec ∧ c.code = code ∧ meth.sig.returnType = ret ∧ c.maxLocals = 4 ∧ s.vm.findClass R_law = some m.cls ∧ (∀ w ∈ lw_tbl, w.before #[Value.ref b] s = true) ∧ va_X b L xs s s.heap ∧ b < s.heap.size ∧ meth.locks = false ∧ (Jvm.Cond.and given_1 narrow_1).before #[Value.ref b] s = true
theorem and31 (x : Int32) : ∃ k, k < 32 ∧ x &&& nI 31 = nI k := by
  refine ⟨x.toBitVec.toNat % 32, Nat.mod_lt _ (by decide), ?_⟩
  apply Int32.toBitVec_inj.mp
  apply BitVec.eq_of_toNat_eq
  show (x.toBitVec &&& BitVec.ofNat 32 31).toNat = (BitVec.ofNat 32 (x.toBitVec.toNat % 32)).toNat
  rw [BitVec.toNat_and, BitVec.toNat_ofNat, BitVec.toNat_ofNat, show 31 % 2 ^ 32 = 2 ^ 5 - 1 from by decide, Nat.and_two_pow_sub_one_eq_mod]
  have := Nat.mod_lt x.toBitVec.toNat (show 0 < 32 by decide)
  omega
section LLOOP
variable {p : Program} {l : Launch} {e : Env} {s : State} {m : MethodId} {below : List Frame} {meth : Method} {c : Code} {D : va_G} {ad : Nat → Nat} {kI kS kL : ClassId} {b L : Nat} {xs : Nat → Int32}
theorem law_end {lv : List (Nat × Value)} {μ : Mem} (C : Cx p s m #[Value.ref b] meth c code 4 ret RL D ad kI kS kL (fun q : Nat => s.heap.size ≤ q)) : Y p l e room_1 s m #[Value.ref b] below meth c D ad kI kS kL (fun q : Nat => s.heap.size ≤ q) 4 48 950 (lw_Z below #[Value.ref b] s) 1178 lv [] μ := by
  refine y_iconst C (1) dL_law_1178 (by decide) ?_
  intro H locs ls hP hS hl
  refine va_forget (fun q hq => hS.2.2 q hq) ?_
  refine W.widen (k := 600000) (n := 7302250) (Nat.le_of_ble_eq_true rfl) (Nat.le_of_ble_eq_true rfl) ?_
  exact lw_ret C.1.1 C.1.2.1 C.2.2.2.2.2.2.1 C.2.2.2.2.2.2.2 dL_law_1179
theorem law_loop (C : Cx p s m #[Value.ref b] meth c code 4 ret RL D ad kI kS kL (fun q : Nat => s.heap.size ≤ q)) (X : LX s (fun q : Nat => s.heap.size ≤ q) b L xs) : ∀ (n i : Nat) (μ : Mem), i ≤ L → L + 1 ≤ i + n → INV μ → LY p l e s m below meth c D ad kI kS kL (fun q : Nat => s.heap.size ≤ q) (lw_Z below #[Value.ref b] s) b 18 i μ := by
  have hL := X.2.2.2
  intro n
  induction n with
  | zero => intro i μ h1 h2; exact absurd h2 (by omega)
  | succ n ih =>
    intro i μ hiL hin hI
    unfold LY
    refine y_iload_n C 0 dL_law_18 rfl rfl ?_
    refine y_aload_n C 3 dL_law_19 rfl rfl ?_
    refine y_slen C X.1 X.2.1 X.2.2.1 dL_law_20 ?_
    refine y_bipush C (nI 7) dL_law_21 (by decide) ?_
    refine y_isub C dL_law_23 (v := nI L - nI 7) rfl ?_
    refine z_icmp_gt C 1178 dL_law_24 (by decide) (a := (i : Int)) (b := (L : Int) - (7 : Nat)) (nI_toInt (by omega)) (pk_sub_toInt (by omega) (by omega)) (fun c1 => ?_) (fun c1 => ?_)
    · exact law_end C
    have hi7 : i + 7 ≤ L := by omega
    refine y_aload_n C 3 dL_law_27 rfl rfl ?_
    refine y_iload_n C 0 dL_law_28 rfl rfl ?_
    refine y_sld C X.1 X.2.1 X.2.2.1 (j := i) (by omega) hL dL_law_29 ?_
    refine y_bipush C (nI 31) dL_law_30 (by decide) ?_
    obtain ⟨k, hk, ek⟩ := and31 (xs i)
    refine y_iand C dL_law_32 (v := nI k) ek ?_
    have K : ∀ μ2, INV μ2 → LY p l e s m below meth c D ad kI kS kL (fun q : Nat => s.heap.size ≤ q) (lw_Z below #[Value.ref b] s) b 1172 i μ2 := by
      intro μ2 hI2
      unfold LY
      refine y_iinc C 0 (nI (i + 7)) [(3, .int (nI (i + 7))), (2, .ref (ad 30)), (1, .ref (ad 0)), (0, .ref b)] dL_law_1172 rfl (nI_add i 7) (by decide) rfl ?_
      refine y_goto C 18 dL_law_1175 (by decide) ?_
      exact ih (i + 7) μ2 hi7 (by omega) hI2
    rcases (show k = 0 ∨ k = 1 ∨ k = 2 ∨ k = 3 ∨ k = 4 ∨ k = 5 ∨ k = 6 ∨ k = 7 ∨ k = 8 ∨ k = 9 ∨ k = 10 ∨ k = 11 ∨ k = 12 ∨ k = 13 ∨ k = 14 ∨ k = 15 ∨ k = 16 ∨ k = 17 ∨ k = 18 ∨ k = 19 ∨ k = 20 ∨ k = 21 ∨ k = 22 ∨ k = 23 ∨ k = 24 ∨ k = 25 ∨ k = 26 ∨ k = 27 ∨ k = 28 ∨ k = 29 ∨ 30 ≤ k by omega) with rfl | rfl | rfl | rfl | rfl | rfl | rfl | rfl | rfl | rfl | rfl | rfl | rfl | rfl | rfl | rfl | rfl | rfl | rfl | rfl | rfl | rfl | rfl | rfl | rfl | rfl | rfl | rfl | rfl | rfl | hk30
    · exact y_tableIn C (off := 135) 168 dL_law_33 (by decide) (by decide) (by decide +kernel) (by decide) (lc_0 C X (by omega) hI K)
    · exact y_tableIn C (off := 188) 221 dL_law_33 (by decide) (by decide) (by decide +kernel) (by decide) (lc_1 C X (by omega) hI K)
    · exact y_tableIn C (off := 221) 254 dL_law_33 (by decide) (by decide) (by decide +kernel) (by decide) (lc_2 C X (by omega) hI K)
    · exact y_tableIn C (off := 244) 277 dL_law_33 (by decide) (by decide) (by decide +kernel) (by decide) (lc_3 C X (by omega) hI K)
    · exact y_tableIn C (off := 277) 310 dL_law_33 (by decide) (by decide) (by decide +kernel) (by decide) (lc_4 C X (by omega) hI K)
    · exact y_tableIn C (off := 310) 343 dL_law_33 (by decide) (by decide) (by decide +kernel) (by decide) (lc_5 C X (by omega) hI K)
    · exact y_tableIn C (off := 343) 376 dL_law_33 (by decide) (by decide) (by decide +kernel) (by decide) (lc_6 C X (by omega) hI K)
    · exact y_tableIn C (off := 376) 409 dL_law_33 (by decide) (by decide) (by decide +kernel) (by decide) (lc_7 C X (by omega) hI K)
    · exact y_tableIn C (off := 399) 432 dL_law_33 (by decide) (by decide) (by decide +kernel) (by decide) (lc_8 C X (by omega) hI K)
    · exact y_tableIn C (off := 432) 465 dL_law_33 (by decide) (by decide) (by decide +kernel) (by decide) (lc_9 C X (by omega) hI K)
    · exact y_tableIn C (off := 507) 540 dL_law_33 (by decide) (by decide) (by decide +kernel) (by decide) (lc_10 C X (by omega) hI K)
    · exact y_tableIn C (off := 550) 583 dL_law_33 (by decide) (by decide) (by decide +kernel) (by decide) (lc_11 C X (by omega) hI K)
    · exact y_tableIn C (off := 593) 626 dL_law_33 (by decide) (by decide) (by decide +kernel) (by decide) (lc_12 C X (by omega) hI K)
    · exact y_tableIn C (off := 606) 639 dL_law_33 (by decide) (by decide) (by decide +kernel) (by decide) (lc_13 C X (by omega) hI K)
    · exact y_tableIn C (off := 649) 682 dL_law_33 (by decide) (by decide) (by decide +kernel) (by decide) (lc_14 C X (by omega) hI K)
    · exact y_tableIn C (off := 672) 705 dL_law_33 (by decide) (by decide) (by decide +kernel) (by decide) (lc_15 C X (by omega) hI K)
    · exact y_tableIn C (off := 695) 728 dL_law_33 (by decide) (by decide) (by decide +kernel) (by decide) (lc_16 C X (by omega) hI K)
    · exact y_tableIn C (off := 718) 751 dL_law_33 (by decide) (by decide) (by decide +kernel) (by decide) (lc_17 C X (by omega) hI K)
    · exact y_tableIn C (off := 741) 774 dL_law_33 (by decide) (by decide) (by decide +kernel) (by decide) (lc_18 C X (by omega) hI K)
    · exact y_tableIn C (off := 795) 828 dL_law_33 (by decide) (by decide) (by decide +kernel) (by decide) (lc_19 C X (by omega) hI K)
    · exact y_tableIn C (off := 838) 871 dL_law_33 (by decide) (by decide) (by decide +kernel) (by decide) (lc_20 C X (by omega) hI K)
    · exact y_tableIn C (off := 861) 894 dL_law_33 (by decide) (by decide) (by decide +kernel) (by decide) (lc_21 C X (by omega) hI K)
    · exact y_tableIn C (off := 904) 937 dL_law_33 (by decide) (by decide) (by decide +kernel) (by decide) (lc_22 C X (by omega) hI K)
    · exact y_tableIn C (off := 948) 981 dL_law_33 (by decide) (by decide) (by decide +kernel) (by decide) (lc_23 C X (by omega) hI K)
    · exact y_tableIn C (off := 1011) 1044 dL_law_33 (by decide) (by decide) (by decide +kernel) (by decide) (lc_24 C X (by omega) hI K)
    · exact y_tableIn C (off := 1034) 1067 dL_law_33 (by decide) (by decide) (by decide +kernel) (by decide) (lc_25 C X (by omega) hI K)
    · exact y_tableIn C (off := 1057) 1090 dL_law_33 (by decide) (by decide) (by decide +kernel) (by decide) (lc_26 C X (by omega) hI K)
    · exact y_tableIn C (off := 1090) 1123 dL_law_33 (by decide) (by decide) (by decide +kernel) (by decide) (lc_27 C X (by omega) hI K)
    · exact y_tableIn C (off := 1103) 1136 dL_law_33 (by decide) (by decide) (by decide +kernel) (by decide) (lc_28 C X (by omega) hI K)
    · exact y_tableIn C (off := 1116) 1149 dL_law_33 (by decide) (by decide) (by decide +kernel) (by decide) (lc_29 C X (by omega) hI K)
    · exact y_tableOut C 1172 dL_law_33 (Or.inr (by rw [nI_toInt (by omega)]; omega)) (by decide) (K μ hI)
end LLOOP
