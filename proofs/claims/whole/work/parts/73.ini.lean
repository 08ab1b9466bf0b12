/-! the heap behind the constructors is the one of the form, and the relation holds in it -/
def NZ (R : RFn) : Prop := (∀ g j i, R (g + 1) j i = R1 g j i) ∧ ∀ j i, 24 ≤ i ∨ 71 ≤ j → R 0 j i = none
theorem NZ.n0 {R : RFn} {a : Nat} (h : NZ R) : NZ (n0 R a) := by
  refine ⟨fun g j i => ?_, fun j i hj => ?_⟩
  · show (if g + 1 = 0 ∧ j = a then none else R (g + 1) j i) = _
    rw [if_neg (by omega)]; exact h.1 g j i
  · show (if (0 : Nat) = 0 ∧ j = a then none else R 0 j i) = _
    by_cases e : (0 : Nat) = 0 ∧ j = a
    · rw [if_pos e]
    · rw [if_neg e]; exact h.2 j i hj
theorem NZ.uR {R : RFn} {a f : Nat} {v : Option (Nat × Nat)} (ha : a < 71) (hf : f < 24) (h : NZ R) : NZ (uR R a f v) := by
  refine ⟨fun g j i => ?_, fun j i hj => ?_⟩
  · show (if g + 1 = 0 ∧ j = a ∧ i = f then v else R (g + 1) j i) = _
    rw [if_neg (by omega)]; exact h.1 g j i
  · show (if (0 : Nat) = 0 ∧ j = a ∧ i = f then v else R 0 j i) = _
    rw [if_neg (by omega)]; exact h.2 j i hj
theorem NZ.b : NZ R00 := ⟨fun _ _ _ => rfl, fun _ _ _ => rfl⟩
theorem NZ.r : NZ R01 := by
  unfold R01 moR sdR sd0R tpR wo3_R wo19_R ga35_R ga8_R ga24_R su4_R su20_R sh48_R sh50_R sh52_R sh54_R
  repeat' first
    | exact NZ.b
    | refine NZ.n0 ?_
    | refine NZ.uR (by decide) (by decide) ?_
theorem rf_lo : ∀ j, j < 71 → ∀ n, RF (fun _ => none) (fun _ => none) 0 j (n + 24) = none
  | 0, _, _ => rfl
  | 1, _, _ => rfl
  | 2, _, _ => rfl
  | 3, _, _ => rfl
  | 4, _, _ => rfl
  | 5, _, _ => rfl
  | 6, _, _ => rfl
  | 7, _, _ => rfl
  | 8, _, _ => rfl
  | 9, _, _ => rfl
  | 10, _, _ => rfl
  | 11, _, _ => rfl
  | 12, _, _ => rfl
  | 13, _, _ => rfl
  | 14, _, _ => rfl
  | 15, _, _ => rfl
  | 16, _, _ => rfl
  | 17, _, _ => rfl
  | 18, _, _ => rfl
  | 19, _, _ => rfl
  | 20, _, _ => rfl
  | 21, _, _ => rfl
  | 22, _, _ => rfl
  | 23, _, _ => rfl
  | 24, _, _ => rfl
  | 25, _, _ => rfl
  | 26, _, _ => rfl
  | 27, _, _ => rfl
  | 28, _, _ => rfl
  | 29, _, _ => rfl
  | 30, _, _ => rfl
  | 31, _, _ => rfl
  | 32, _, _ => rfl
  | 33, _, _ => rfl
  | 34, _, _ => rfl
  | 35, _, _ => rfl
  | 36, _, _ => rfl
  | 37, _, _ => rfl
  | 38, _, _ => rfl
  | 39, _, _ => rfl
  | 40, _, _ => rfl
  | 41, _, _ => rfl
  | 42, _, _ => rfl
  | 43, _, _ => rfl
  | 44, _, _ => rfl
  | 45, _, _ => rfl
  | 46, _, _ => rfl
  | 47, _, _ => rfl
  | 48, _, _ => rfl
  | 49, _, _ => rfl
  | 50, _, _ => rfl
  | 51, _, _ => rfl
  | 52, _, _ => rfl
  | 53, _, _ => rfl
  | 54, _, _ => rfl
  | 55, _, _ => rfl
  | 56, _, _ => rfl
  | 57, _, _ => rfl
  | 58, _, _ => rfl
  | 59, _, _ => rfl
  | 60, _, _ => rfl
  | 61, _, _ => rfl
  | 62, _, _ => rfl
  | 63, _, _ => rfl
  | 64, _, _ => rfl
  | 65, _, _ => rfl
  | 66, _, _ => rfl
  | 67, _, _ => rfl
  | 68, _, _ => rfl
  | 69, _, _ => rfl
  | 70, _, _ => rfl
  | _ + 71, h, _ => absurd h (by omega)
theorem rf_hi (m i : Nat) : RF (fun _ => none) (fun _ => none) 0 (m + 71) i = none := rfl
theorem rf_in : ∀ j, j < 71 → ∀ i, i < 24 → R01 0 j i = RF (fun _ => none) (fun _ => none) 0 j i := by decide +kernel
theorem rf_eq : R01 = RF (fun _ => none) (fun _ => none) := by
  funext g j i
  cases g with
  | succ g => exact NZ.r.1 g j i
  | zero =>
    by_cases hj : j < 71
    · by_cases hi : i < 24
      · exact rf_in j hj i hi
      · obtain ⟨n, rfl⟩ : ∃ n, i = n + 24 := ⟨i - 24, by omega⟩
        rw [rf_lo j hj n]; exact NZ.r.2 j _ (Or.inl (by omega))
    · obtain ⟨m, rfl⟩ : ∃ m, j = m + 71 := ⟨j - 71, by omega⟩
      rw [rf_hi]; exact NZ.r.2 _ _ (Or.inr (by omega))
theorem i_told : ∀ f, f < 7 → I00 0 47 f = I00 0 60 f := by decide +kernel
theorem i_sheet : ∀ s, s < 4 → I00 0 (48 + 2 * s) 1 = 0 ∧ I00 0 67 s = 0 ∧ I00 0 (48 + 2 * s) 2 = 0 ∧ I00 0 68 s = 0 := by decide +kernel
theorem i_sheet2 : ∀ s, s < 4 → ∀ i, i < 40 → I00 0 (49 + 2 * s) i = I00 0 69 (40 * s + i) := by decide +kernel
theorem i_man : ∀ p, p < 10 → ∀ a, a < 9 → I00 0 (9 + a) p = I00 0 57 (5 + 9 * p + a) := by decide +kernel
theorem i_spot : ∀ p, p < 10 → I00 0 18 p = I00 0 57 (95 + p) ∧ I00 0 57 (95 + p) = -1 := by decide +kernel
theorem i_hd : I00 0 57 0 = nI 0 ∧ I00 0 4 3 = nI 0 ∧ (I00 0 8 9 = I00 0 57 1 ∧ I00 0 57 1 = -1) ∧ (I00 0 8 11 = I00 0 57 2 ∧ I00 0 57 2 = nI 0) ∧ (I00 0 8 10 = I00 0 57 3 ∧ I00 0 57 3 = nI 999) ∧ I00 0 3 3 = I00 0 57 4 := by decide +kernel
theorem i_row : ∀ p, p < 10 → I00 0 57 (5 + 9 * p + 0) = nI 3 ∧ I00 0 57 (5 + 9 * p + 1) = nI 50 ∧ I00 0 57 (5 + 9 * p + 2) = nI 10 ∧ I00 0 57 (5 + 9 * p + 3) = nI p ∧ I00 0 57 (5 + 9 * p + 4) = nI 1 ∧ I00 0 57 (5 + 9 * p + 5) = nI 0 ∧ I00 0 57 (5 + 9 * p + 6) = -1 ∧ I00 0 57 (5 + 9 * p + 7) = nI 0 ∧ I00 0 57 (5 + 9 * p + 8) = nI 0 := by decide +kernel
theorem i_rest : I00 0 1 1 = nI 0 ∧ I00 0 56 8 = nI 0 ∧ I00 0 0 7 = 0 ∧ I00 0 56 4 = 0 := by decide +kernel
theorem i_inv : Inv I00 (fun _ => none) (fun _ => none) 0 := by
  obtain ⟨r1, r2, r3, r4⟩ := i_rest
  obtain ⟨h1, h2, h3, h4, h5, h6⟩ := i_hd
  refine ⟨i_told, ⟨0, by omega, r1, r2, fun i hi => by omega⟩, fun s hs => ?_, ⟨0, by omega, ⟨h1, h2, ⟨h3.1, Or.inl h3.2⟩, ⟨h4.1, 0, by omega, by omega, h4.2⟩, ⟨h5.1, 999, by omega, by omega, h5.2⟩, h6⟩, fun p hp => ?_, fun q hq => by omega, fun q _ => Or.inl rfl⟩, Or.inl ⟨r3, r4⟩⟩
  · obtain ⟨s1, s2, s3, s4⟩ := i_sheet s hs
    exact ⟨0, 0, Or.inl rfl, by omega, s1, s2, s3, s4, i_sheet2 s hs⟩
  · obtain ⟨m0, m1, m2, m3, m4, m5, m6, m7, m8⟩ := i_row p hp
    exact ⟨i_man p hp, ⟨⟨3, by omega, by omega, m0⟩, ⟨50, by omega, by omega, m1⟩, ⟨10, by omega, by omega, m2⟩, ⟨p, by omega, by omega, m3⟩, ⟨1, by omega, by omega, m4⟩, ⟨0, by omega, by omega, m5⟩, Or.inl m6, ⟨⟨0, by omega, by omega, m7⟩, fun _ => ⟨0, by omega, by omega, m7⟩⟩, ⟨0, by omega, by omega, m8⟩⟩, (i_spot p hp).1, Or.inl (i_spot p hp).2⟩
theorem ini_ok : INI Inv := by
  intro L xs
  refine ⟨I00, i_inv, ?_⟩
  rw [mkH, ← rf_eq]
  exact (lw_0 (fun _ _ _ => 0) R00 (L, xs)).trans (lw_8 _ _ (L, xs))
