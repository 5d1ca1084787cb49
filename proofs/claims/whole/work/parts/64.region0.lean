/-! THE REGION out of what the constructors made -/
def adF (L : List Nat) : Nat → Nat := fun c => L.getD c 0
def m44 : Nat → Int32 := upd (upd (upd (upd (fun _ => 0) 0 (-1)) 1 (-1)) 2 (-1)) 3 (-1)
def mu0 : Mem := fun c => if c = 44 then m44 else if 14 ≤ c ∧ c ≤ 17 then (fun k => if k = 1 then -1 else 0) else (fun _ => 0)
theorem refs4 {cA : ClassId} {f g : Nat → Option Nat} (h : ∀ j, j < 4 → f j = g j) : vp_cell cA (4, .inr (.inr (.inr (.inr f)))) = vp_cell cA (4, .inr (.inr (.inr (.inr g)))) := by
  show arrV cA 4 (fun j => va_rf (f j)) = arrV cA 4 (fun j => va_rf (g j))
  unfold arrV
  congr 2
  funext j
  show va_rf (f j.1) = va_rf (g j.1)
  rw [h j.1 j.2]
theorem at_refs {D : va_G} {cl : List vw_C} {a : Nat} {cA : ClassId} {f g : Nat → Option Nat} {H : Heap} (h : va_at D cl (a, .inl (cA, 4, .inr (.inr (.inr (.inr f))))) H) (e : ∀ j, j < 4 → f j = g j) : va_at D cl (a, .inl (cA, 4, .inr (.inr (.inr (.inr g))))) H := by
  unfold va_at at *
  dsimp only at *
  rw [← refs4 e]
  exact h
theorem up4 {a b c d : Nat} {j : Nat} (hj : j < 4) : va_up (va_up (va_up (va_up (fun _ => none) 0 (some a)) 1 (some b)) 2 (some c)) 3 (some d) j = some ([a, b, c, d].getD j 0) := by
  rcases (show j = 0 ∨ j = 1 ∨ j = 2 ∨ j = 3 by omega) with rfl | rfl | rfl | rfl <;> rfl
theorem list_D {A : Nat → Prop} {ws : va_W} {L : List Nat} (h : va_D A ws) (hL : ws.map Prod.fst = L) (hn : L.length = 48) : Inj (adF L) ∧ ∀ c, c < 48 → A (adF L c) := by
  have at_ : ∀ i, i < 48 → ∃ q, ws[i]? = some q ∧ q.1 = adF L i := fun i hi => by
    have hlen : i < ws.length := by rw [← hL, List.length_map] at hn; omega
    refine ⟨ws[i], List.getElem?_eq_getElem hlen, ?_⟩
    subst hL
    simp [adF, List.getD, hlen]
  refine ⟨fun i j hi hj e => ?_, fun c hc => ?_⟩
  · obtain ⟨p, h1, h2⟩ := at_ i hi
    obtain ⟨q, h3, h4⟩ := at_ j hj
    exact h.1 i j p q h1 h3 (by rw [h2, h4, e])
  · obtain ⟨p, h1, h2⟩ := at_ c hc
    rw [← h2]; exact h.2 c p h1
set_option maxRecDepth 100000 in
set_option maxHeartbeats 4000000 in
theorem rg_at {D : va_G} {kI kS kL : ClassId} {H : Heap} {a0 a1 a2 a3 a4 a5 a6 a7 a8 a9 a10 a11 a12 a13 a14 a15 a16 a17 a18 a19 a20 a21 a22 a23 a24 a25 a26 a27 a28 a29 a30 a31 a32 a33 a34 a35 a36 a37 a38 a39 a40 a41 a42 a43 a44 a45 a46 a47 : Nat} (hP : va_P D vwCl [(a0, .inr (4, [.ref a1, .ref a2, .ref a3, .ref a4, .int 0, .int 0])), (a1, .inr (3, [.ref a5, .ref a7, .ref a9, .int 0, .int 0, .int 0, .int 0])), (a2, .inr (3, [.ref a6, .ref a8, .ref a10, .int 0, .int 0, .int 0, .int 0])), (a3, .inr (0, [.ref a11, .ref a12, .ref a13, .int 0])), (a4, .inl (kS, 4, .inr (.inr (.inr (.inr (va_up (va_up (va_up (va_up (fun _ => none) 0 (some a14)) 1 (some a15)) 2 (some a16)) 3 (some a17))))))), (a5, .inl (kL, 4, .inr (.inr (.inr (.inr (va_up (va_up (va_up (va_up (fun _ => none) 0 (some a22)) 1 (some a23)) 2 (some a24)) 3 (some a25))))))), (a6, .inl (kL, 4, .inr (.inr (.inr (.inr (va_up (va_up (va_up (va_up (fun _ => none) 0 (some a26)) 1 (some a27)) 2 (some a28)) 3 (some a29))))))), (a7, .inl (kI, 9, .inl (fun _ => 0))), (a8, .inl (kI, 9, .inl (fun _ => 0))), (a9, .inl (kI, 61, .inl (fun _ => 0))), (a10, .inl (kI, 61, .inl (fun _ => 0))), (a11, .inl (kI, 8, .inl (fun _ => 0))), (a12, .inl (kI, 8, .inl (fun _ => 0))), (a13, .inl (kI, 8, .inl (fun _ => 0))), (a14, .inr (1, [.ref a18, .int (-1), .int 0])), (a15, .inr (1, [.ref a19, .int (-1), .int 0])), (a16, .inr (1, [.ref a20, .int (-1), .int 0])), (a17, .inr (1, [.ref a21, .int (-1), .int 0])), (a18, .inl (kI, 60, .inl (fun _ => 0))), (a19, .inl (kI, 60, .inl (fun _ => 0))), (a20, .inl (kI, 60, .inl (fun _ => 0))), (a21, .inl (kI, 60, .inl (fun _ => 0))), (a22, .inr (2, [.int 0, .int 0, .int 0])), (a23, .inr (2, [.int 0, .int 0, .int 0])), (a24, .inr (2, [.int 0, .int 0, .int 0])), (a25, .inr (2, [.int 0, .int 0, .int 0])), (a26, .inr (2, [.int 0, .int 0, .int 0])), (a27, .inr (2, [.int 0, .int 0, .int 0])), (a28, .inr (2, [.int 0, .int 0, .int 0])), (a29, .inr (2, [.int 0, .int 0, .int 0])), (a30, .inr (5, [.int 0, .int 0, .ref a31, .int 0, .ref a32, .ref a33, .ref a34, .int 0, .int 0, .int 0, .int 0, .ref a35, .ref a36, .ref a37, .ref a38, .ref a39, .int 0, .int 0, .int 0, .int 0, .ref a40, .int 0, .ref a41, .ref a42, .ref a43, .ref a44, .ref a45, .ref a46, .ref a47, .int 0])), (a31, .inl (kI, 9, .inl (fun _ => 0))), (a32, .inl (kI, 4, .inl (fun _ => 0))), (a33, .inl (kI, 4, .inl (fun _ => 0))), (a34, .inl (kI, 4, .inl (fun _ => 0))), (a35, .inl (kI, 9, .inl (fun _ => 0))), (a36, .inl (kI, 4, .inl (fun _ => 0))), (a37, .inl (kI, 4, .inl (fun _ => 0))), (a38, .inl (kI, 4, .inl (fun _ => 0))), (a39, .inl (kI, 9, .inl (fun _ => 0))), (a40, .inl (kI, 61, .inl (fun _ => 0))), (a41, .inl (kI, 8, .inl (fun _ => 0))), (a42, .inl (kI, 8, .inl (fun _ => 0))), (a43, .inl (kI, 8, .inl (fun _ => 0))), (a44, .inl (kI, 4, .inl (upd (upd (upd (upd (fun _ => 0) 0 (-1)) 1 (-1)) 2 (-1)) 3 (-1)))), (a45, .inl (kI, 4, .inl (fun _ => 0))), (a46, .inl (kI, 240, .inl (fun _ => 0))), (a47, .inl (kI, 60, .inl (fun _ => 0)))] H) : ∀ k, k < 48 → va_at D vwCl (adF [a0, a1, a2, a3, a4, a5, a6, a7, a8, a9, a10, a11, a12, a13, a14, a15, a16, a17, a18, a19, a20, a21, a22, a23, a24, a25, a26, a27, a28, a29, a30, a31, a32, a33, a34, a35, a36, a37, a38, a39, a40, a41, a42, a43, a44, a45, a46, a47] k, xe (adF [a0, a1, a2, a3, a4, a5, a6, a7, a8, a9, a10, a11, a12, a13, a14, a15, a16, a17, a18, a19, a20, a21, a22, a23, a24, a25, a26, a27, a28, a29, a30, a31, a32, a33, a34, a35, a36, a37, a38, a39, a40, a41, a42, a43, a44, a45, a46, a47]) kI kS kL k (mu0 k)) H
  | 0, _ => by rw [xe_O (ci := 4) (by decide)]; exact hP 0 _ rfl
  | 1, _ => by rw [xe_O (ci := 3) (by decide)]; exact hP 1 _ rfl
  | 2, _ => by rw [xe_O (ci := 3) (by decide)]; exact hP 2 _ rfl
  | 3, _ => by rw [xe_O (ci := 0) (by decide)]; exact hP 3 _ rfl
  | 4, _ => by
    rw [xe_S]
    exact at_refs (hP 4 _ rfl) (fun j hj => by rw [up4 hj]; rcases (show j = 0 ∨ j = 1 ∨ j = 2 ∨ j = 3 by omega) with rfl | rfl | rfl | rfl <;> rfl)
  | 5, _ => by
    rw [xe_L (by decide)]
    exact at_refs (hP 5 _ rfl) (fun j hj => by rw [up4 hj]; rcases (show j = 0 ∨ j = 1 ∨ j = 2 ∨ j = 3 by omega) with rfl | rfl | rfl | rfl <;> rfl)
  | 6, _ => by
    rw [xe_L (by decide)]
    exact at_refs (hP 6 _ rfl) (fun j hj => by rw [up4 hj]; rcases (show j = 0 ∨ j = 1 ∨ j = 2 ∨ j = 3 by omega) with rfl | rfl | rfl | rfl <;> rfl)
  | 7, _ => by rw [xe_A (by decide)]; exact hP 7 _ rfl
  | 8, _ => by rw [xe_A (by decide)]; exact hP 8 _ rfl
  | 9, _ => by rw [xe_A (by decide)]; exact hP 9 _ rfl
  | 10, _ => by rw [xe_A (by decide)]; exact hP 10 _ rfl
  | 11, _ => by rw [xe_A (by decide)]; exact hP 11 _ rfl
  | 12, _ => by rw [xe_A (by decide)]; exact hP 12 _ rfl
  | 13, _ => by rw [xe_A (by decide)]; exact hP 13 _ rfl
  | 14, _ => by rw [xe_O (ci := 1) (by decide)]; exact hP 14 _ rfl
  | 15, _ => by rw [xe_O (ci := 1) (by decide)]; exact hP 15 _ rfl
  | 16, _ => by rw [xe_O (ci := 1) (by decide)]; exact hP 16 _ rfl
  | 17, _ => by rw [xe_O (ci := 1) (by decide)]; exact hP 17 _ rfl
  | 18, _ => by rw [xe_A (by decide)]; exact hP 18 _ rfl
  | 19, _ => by rw [xe_A (by decide)]; exact hP 19 _ rfl
  | 20, _ => by rw [xe_A (by decide)]; exact hP 20 _ rfl
  | 21, _ => by rw [xe_A (by decide)]; exact hP 21 _ rfl
  | 22, _ => by rw [xe_O (ci := 2) (by decide)]; exact hP 22 _ rfl
  | 23, _ => by rw [xe_O (ci := 2) (by decide)]; exact hP 23 _ rfl
  | 24, _ => by rw [xe_O (ci := 2) (by decide)]; exact hP 24 _ rfl
  | 25, _ => by rw [xe_O (ci := 2) (by decide)]; exact hP 25 _ rfl
  | 26, _ => by rw [xe_O (ci := 2) (by decide)]; exact hP 26 _ rfl
  | 27, _ => by rw [xe_O (ci := 2) (by decide)]; exact hP 27 _ rfl
  | 28, _ => by rw [xe_O (ci := 2) (by decide)]; exact hP 28 _ rfl
  | 29, _ => by rw [xe_O (ci := 2) (by decide)]; exact hP 29 _ rfl
  | 30, _ => by rw [xe_O (ci := 5) (by decide)]; exact hP 30 _ rfl
  | 31, _ => by rw [xe_A (by decide)]; exact hP 31 _ rfl
  | 32, _ => by rw [xe_A (by decide)]; exact hP 32 _ rfl
  | 33, _ => by rw [xe_A (by decide)]; exact hP 33 _ rfl
  | 34, _ => by rw [xe_A (by decide)]; exact hP 34 _ rfl
  | 35, _ => by rw [xe_A (by decide)]; exact hP 35 _ rfl
  | 36, _ => by rw [xe_A (by decide)]; exact hP 36 _ rfl
  | 37, _ => by rw [xe_A (by decide)]; exact hP 37 _ rfl
  | 38, _ => by rw [xe_A (by decide)]; exact hP 38 _ rfl
  | 39, _ => by rw [xe_A (by decide)]; exact hP 39 _ rfl
  | 40, _ => by rw [xe_A (by decide)]; exact hP 40 _ rfl
  | 41, _ => by rw [xe_A (by decide)]; exact hP 41 _ rfl
  | 42, _ => by rw [xe_A (by decide)]; exact hP 42 _ rfl
  | 43, _ => by rw [xe_A (by decide)]; exact hP 43 _ rfl
  | 44, _ => by rw [xe_A (by decide)]; exact hP 44 _ rfl
  | 45, _ => by rw [xe_A (by decide)]; exact hP 45 _ rfl
  | 46, _ => by rw [xe_A (by decide)]; exact hP 46 _ rfl
  | 47, _ => by rw [xe_A (by decide)]; exact hP 47 _ rfl
  | k + 48, h => absurd h (by omega)
theorem rg_P {D : va_G} {kI kS kL : ClassId} {H : Heap} {a0 a1 a2 a3 a4 a5 a6 a7 a8 a9 a10 a11 a12 a13 a14 a15 a16 a17 a18 a19 a20 a21 a22 a23 a24 a25 a26 a27 a28 a29 a30 a31 a32 a33 a34 a35 a36 a37 a38 a39 a40 a41 a42 a43 a44 a45 a46 a47 : Nat} (hP : va_P D vwCl [(a0, .inr (4, [.ref a1, .ref a2, .ref a3, .ref a4, .int 0, .int 0])), (a1, .inr (3, [.ref a5, .ref a7, .ref a9, .int 0, .int 0, .int 0, .int 0])), (a2, .inr (3, [.ref a6, .ref a8, .ref a10, .int 0, .int 0, .int 0, .int 0])), (a3, .inr (0, [.ref a11, .ref a12, .ref a13, .int 0])), (a4, .inl (kS, 4, .inr (.inr (.inr (.inr (va_up (va_up (va_up (va_up (fun _ => none) 0 (some a14)) 1 (some a15)) 2 (some a16)) 3 (some a17))))))), (a5, .inl (kL, 4, .inr (.inr (.inr (.inr (va_up (va_up (va_up (va_up (fun _ => none) 0 (some a22)) 1 (some a23)) 2 (some a24)) 3 (some a25))))))), (a6, .inl (kL, 4, .inr (.inr (.inr (.inr (va_up (va_up (va_up (va_up (fun _ => none) 0 (some a26)) 1 (some a27)) 2 (some a28)) 3 (some a29))))))), (a7, .inl (kI, 9, .inl (fun _ => 0))), (a8, .inl (kI, 9, .inl (fun _ => 0))), (a9, .inl (kI, 61, .inl (fun _ => 0))), (a10, .inl (kI, 61, .inl (fun _ => 0))), (a11, .inl (kI, 8, .inl (fun _ => 0))), (a12, .inl (kI, 8, .inl (fun _ => 0))), (a13, .inl (kI, 8, .inl (fun _ => 0))), (a14, .inr (1, [.ref a18, .int (-1), .int 0])), (a15, .inr (1, [.ref a19, .int (-1), .int 0])), (a16, .inr (1, [.ref a20, .int (-1), .int 0])), (a17, .inr (1, [.ref a21, .int (-1), .int 0])), (a18, .inl (kI, 60, .inl (fun _ => 0))), (a19, .inl (kI, 60, .inl (fun _ => 0))), (a20, .inl (kI, 60, .inl (fun _ => 0))), (a21, .inl (kI, 60, .inl (fun _ => 0))), (a22, .inr (2, [.int 0, .int 0, .int 0])), (a23, .inr (2, [.int 0, .int 0, .int 0])), (a24, .inr (2, [.int 0, .int 0, .int 0])), (a25, .inr (2, [.int 0, .int 0, .int 0])), (a26, .inr (2, [.int 0, .int 0, .int 0])), (a27, .inr (2, [.int 0, .int 0, .int 0])), (a28, .inr (2, [.int 0, .int 0, .int 0])), (a29, .inr (2, [.int 0, .int 0, .int 0])), (a30, .inr (5, [.int 0, .int 0, .ref a31, .int 0, .ref a32, .ref a33, .ref a34, .int 0, .int 0, .int 0, .int 0, .ref a35, .ref a36, .ref a37, .ref a38, .ref a39, .int 0, .int 0, .int 0, .int 0, .ref a40, .int 0, .ref a41, .ref a42, .ref a43, .ref a44, .ref a45, .ref a46, .ref a47, .int 0])), (a31, .inl (kI, 9, .inl (fun _ => 0))), (a32, .inl (kI, 4, .inl (fun _ => 0))), (a33, .inl (kI, 4, .inl (fun _ => 0))), (a34, .inl (kI, 4, .inl (fun _ => 0))), (a35, .inl (kI, 9, .inl (fun _ => 0))), (a36, .inl (kI, 4, .inl (fun _ => 0))), (a37, .inl (kI, 4, .inl (fun _ => 0))), (a38, .inl (kI, 4, .inl (fun _ => 0))), (a39, .inl (kI, 9, .inl (fun _ => 0))), (a40, .inl (kI, 61, .inl (fun _ => 0))), (a41, .inl (kI, 8, .inl (fun _ => 0))), (a42, .inl (kI, 8, .inl (fun _ => 0))), (a43, .inl (kI, 8, .inl (fun _ => 0))), (a44, .inl (kI, 4, .inl (upd (upd (upd (upd (fun _ => 0) 0 (-1)) 1 (-1)) 2 (-1)) 3 (-1)))), (a45, .inl (kI, 4, .inl (fun _ => 0))), (a46, .inl (kI, 240, .inl (fun _ => 0))), (a47, .inl (kI, 60, .inl (fun _ => 0)))] H) : va_P D vwCl (xW (adF [a0, a1, a2, a3, a4, a5, a6, a7, a8, a9, a10, a11, a12, a13, a14, a15, a16, a17, a18, a19, a20, a21, a22, a23, a24, a25, a26, a27, a28, a29, a30, a31, a32, a33, a34, a35, a36, a37, a38, a39, a40, a41, a42, a43, a44, a45, a46, a47]) kI kS kL mu0) H := fun k q hq => by
  obtain ⟨hk, rfl⟩ := xW_at hq
  exact rg_at hP k hk
theorem inv_0 : INV mu0 := by
  refine ⟨t00, t00, t00, fun _ _ => 0, ⟨⟨rfl, rfl, fun a ha => ?_, fun p hp => ?_⟩, ⟨t00, ⟨rfl, rfl, fun a ha => ?_, fun p hp => ?_⟩, ?_⟩, ⟨rfl, fun i hi => ⟨rfl, rfl, rfl⟩⟩, fun k hk => ?_⟩, ⟨⟨rfl, rfl, fun a ha => absurd ha (Nat.not_lt_zero a), fun p hp => absurd hp (Nat.not_lt_zero p)⟩, ⟨rfl, fun i hi => absurd hi (Nat.not_lt_zero i)⟩, fun k hk => ?_, rfl⟩, ⟨⟨?_, Or.inl ⟨rfl, rfl⟩, fun a ha => absurd ha (Nat.not_lt_zero a)⟩, ⟨Nat.zero_le _, fun i hi => absurd hi (Nat.not_lt_zero i)⟩, fun k hk => ⟨Nat.zero_le _, Nat.zero_le _, fun _ => rfl⟩⟩, rfl, rfl⟩
  · rcases (show a = 0 ∨ a = 1 ∨ a = 2 ∨ a = 3 by omega) with rfl | rfl | rfl | rfl <;> exact ⟨rfl, rfl, rfl⟩
  · rfl
  · rcases (show a = 0 ∨ a = 1 ∨ a = 2 ∨ a = 3 by omega) with rfl | rfl | rfl | rfl <;> exact ⟨rfl, rfl, rfl⟩
  · rfl
  · exact ⟨Nat.zero_le _, Nat.zero_le _, fun a _ => ⟨Nat.zero_le _, Nat.zero_le _, Nat.zero_le _⟩, fun p _ => Nat.zero_le _⟩
  · rcases (show k = 0 ∨ k = 1 ∨ k = 2 ∨ k = 3 by omega) with rfl | rfl | rfl | rfl <;> exact ⟨rfl, rfl, Nat.zero_le _, Nat.zero_le _, fun i hi => absurd hi (Nat.not_lt_zero i)⟩
  · refine ⟨fun _ => ?_, fun h => absurd h (Nat.not_lt_zero 0), fun i hi => absurd hi (Nat.not_lt_zero i)⟩
    rcases (show k = 0 ∨ k = 1 ∨ k = 2 ∨ k = 3 by omega) with rfl | rfl | rfl | rfl <;> rfl
  · exact ⟨Nat.zero_le _, Nat.zero_le _, fun a _ => ⟨Nat.zero_le _, Nat.zero_le _, Nat.zero_le _⟩, fun p _ => Nat.zero_le _⟩
