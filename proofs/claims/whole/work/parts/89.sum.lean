/-! sum: what is left of it -/
theorem rd_inl (B : Nat → Nat) : ∀ n i s j, rdP B i n s = .inl j → i ≤ j ∧ j < i + n
  | 0, i, s, j, h => by rw [rdP] at h; cases h
  | n + 1, i, s, j, h => by
    rw [rdP] at h
    cases hs : stP s (B i) with
    | none =>
      rw [hs] at h
      have := Sum.inl.inj h
      omega
    | some u =>
      rw [hs] at h
      have := rd_inl B n (i + 1) u j h
      omega
theorem mkF_add (B : Nat → Nat) (i m : Nat) : ∀ n, mkF B i (m + n) = mkF B i m + mkF B (i + m) n
  | 0 => rfl
  | n + 1 => by
    rw [← Nat.add_assoc, mkF, mkF_add B i m n, mkF, Nat.add_assoc i m n, Nat.add_assoc]
theorem mkF_le (B : Nat → Nat) (i : Nat) : ∀ m, mkF B i m ≤ m
  | 0 => Nat.le_refl _
  | m + 1 => by
    have := mkF_le B i m
    rw [mkF]
    by_cases h : isM (B (i + m)) = true
    · rw [if_pos h]; omega
    · rw [if_neg h]; omega
theorem mkF_text {B : Nat → Nat} {a n : Nat} (ha : a < n) (hB : B a = 61) : mkF B 0 n = mkF B 0 a + mkF B (a + 1) (n - a - 1) := by
  have e : n = a + 1 + (n - a - 1) := by omega
  have e1 : mkF B 0 n = mkF B 0 (a + 1) + mkF B (0 + (a + 1)) (n - a - 1) := by
    have := mkF_add B 0 (a + 1) (n - a - 1)
    rw [← e] at this
    exact this
  rw [e1, mkF, Nat.zero_add, hB, if_neg (by decide), Nat.zero_add, Nat.add_zero]
theorem flt_or (B : Nat → Nat) {n : Nat} (hn : n ≤ 40) : (∃ f, f ≤ 40 ∧ fltI n (rdP B 0 n p0) = nI f) ∨ (∃ dg pl dn dl, rdP B 0 n p0 = .inr (false, dg, 0, true, pl, dn, dl) ∧ fltI n (rdP B 0 n p0) = -1) := by
  cases hr : rdP B 0 n p0 with
  | inl j =>
    have := rd_inl B n 0 p0 j hr
    exact Or.inl ⟨j, by omega, rfl⟩
  | inr s =>
    obtain ⟨w, dg, op, pt, pl, dn, dl⟩ := s
    by_cases h : w = true ∨ 0 < op ∨ pt = false
    · exact Or.inl ⟨n, hn, by rw [fltI, if_pos h]⟩
    · right
      have hw : w = false := by
        cases w with
        | false => rfl
        | true => exact absurd (Or.inl rfl) h
      have hp : pt = true := by
        cases pt with
        | true => rfl
        | false => exact absurd (Or.inr (Or.inr rfl)) h
      have ho : op = 0 := by
        by_cases z : 0 < op
        · exact absurd (Or.inr (Or.inl z)) h
        · omega
      subst hw hp ho
      exact ⟨dg, pl, dn, dl, rfl, by rw [fltI, if_neg h]⟩
theorem opt_up {n : Nat} {x : Int32} (h : opt n x) : opt (n + 1) x := by
  rcases h with h | ⟨q, h1, h2⟩
  · exact Or.inl h
  · exact Or.inr ⟨q, by omega, h2⟩
theorem sumOK.up {I : IFn} {t : Option (Nat × Nat)} {k : Nat} {kind m : Int32} {C : Nat → Int32} (w : sumOK I t k kind m C) : sumOK I t (k + 1) kind m C := by
  obtain ⟨h1, h2, h3, h4, e, he, h5, h6⟩ := w
  exact ⟨h1, h2, h3, h4, e, by omega, h5, h6⟩
theorem KeptOK.up {I : IFn} {t2 : TFn} {k : Nat} (v : KeptOK I t2 k) : KeptOK I t2 (k + 1) := by
  rcases v with h | ⟨z1, z2, n, h0, h1, h2, h3, h4⟩
  · exact Or.inl h
  · exact Or.inr ⟨z1, z2, n, h0, h1, h2, fun q hq => sumOK.up (h3 q hq), h4⟩
/-- one sum more -/
theorem Inv.more {I J : IFn} {t1 t2 : TFn} {k n : Nat} (v : Inv I t1 t2 k) (hn : n < 8) (c0 : I 0 57 0 = nI n) (hT : TapeOK J) (h0 : J 0 57 0 = nI (n + 1)) (h4 : J 0 4 3 = nI (n + 1)) (hs : sumOK J (some (k + 1, 0)) (k + 1) (J 0 6 n) (J 0 7 n) (fun a => J 0 57 (105 + 45 * n + a))) (hfr : ∀ g j i, ¬ Gb g j i → ¬ g = k + 1 → ¬ (g = 0 ∧ (j = 1 ∨ j = 2 ∨ j = 61 ∨ (j = 56 ∧ i = 8) ∨ (j = 57 ∧ (i = 0 ∨ (105 + 45 * n ≤ i ∧ i < 105 + 45 * n + 45))) ∨ (j = 4 ∧ i = 3) ∨ ((j = 6 ∨ j = 7) ∧ i = n))) → J g j i = I g j i) : Inv J (tS t1 n (some (k + 1, 0))) t2 (k + 1) := by
  obtain ⟨hTo, -, hSh, ⟨m, m8, hd, hM, hQ, hTK⟩, hK⟩ := v
  have hm : m = n := (nI_eq (by omega) (by omega)).mp (hd.1.symm.trans c0)
  subst hm
  have fr : ∀ j i, ¬ ((j = 0 ∧ i ≠ 7) ∨ j = 1 ∨ j = 2 ∨ ((j = 8 ∨ j = 24) ∧ i = 12) ∨ (35 ≤ j ∧ j ≤ 46) ∨ (j = 56 ∧ i ≠ 4) ∨ j = 59 ∨ (61 ≤ j ∧ j ≤ 66) ∨ 70 ≤ j ∨ (j = 57 ∧ (i = 0 ∨ (105 + 45 * m ≤ i ∧ i < 105 + 45 * m + 45))) ∨ (j = 4 ∧ i = 3) ∨ ((j = 6 ∨ j = 7) ∧ i = m)) → J 0 j i = I 0 j i := fun j i q => hfr 0 j i (by unfold Gb; omega) (by omega) (by omega)
  have hTS : TextsSame I J k := fun e he j i q1 q2 q3 q4 => hfr _ _ _ (by unfold Gb; omega) (by omega) (by omega)
  refine ⟨hTo.congr (fun i _ => fr _ _ (by omega)) (fun i _ => fr _ _ (by omega)), hT, fun s hs => (hSh s hs).congr hs (fun j i _ _ => fr _ _ (by omega)) (fun j i _ _ => fr _ _ (by omega)), ⟨m + 1, by omega, ?_, fun p hp => ?_, fun q hq => ?_, fun q hq => ?_⟩, ?_⟩
  · obtain ⟨d1, d2, ⟨d3, d3'⟩, ⟨d4, d4'⟩, ⟨d5, d5'⟩, d6⟩ := hd
    refine ⟨h0, h4, ⟨?_, ?_⟩, ⟨?_, ?_⟩, ⟨?_, ?_⟩, ?_⟩
    · rw [fr (3 + 5) 9 (by omega), fr 57 1 (by omega)]; exact d3
    · rw [fr 57 1 (by omega)]; exact opt_up d3'
    · rw [fr (3 + 5) 11 (by omega), fr 57 2 (by omega)]; exact d4
    · rw [fr 57 2 (by omega)]; exact d4'
    · rw [fr (3 + 5) 10 (by omega), fr 57 3 (by omega)]; exact d5
    · rw [fr 57 3 (by omega)]; exact d5'
    · rw [fr 3 3 (by omega), fr 57 4 (by omega)]; exact d6
  · obtain ⟨g1, g2, g3, g4⟩ := (hM p hp).congr (J := J) (S' := J 0 57) hp (fun j _ _ => fr _ _ (by omega)) (fun i _ _ => fr _ _ (by omega))
    exact ⟨g1, g2, g3, opt_up g4⟩
  · by_cases e : q = m
    · subst e
      show sumOK J (tS t1 q (some (k + 1, 0)) q) (k + 1) (J 0 6 q) (J 0 7 q) (fun a => J 0 57 (105 + 45 * q + a))
      rw [tS_at rfl]
      exact hs
    · show sumOK J (tS t1 m (some (k + 1, 0)) q) (k + 1) (J 0 (3 + 3) q) (J 0 (3 + 4) q) (fun a => J 0 57 (105 + 45 * q + a))
      rw [tS_ne e]
      have g0 : sumOK J (t1 q) k (I 0 (3 + 3) q) (I 0 (3 + 4) q) (fun a => I 0 57 (105 + 45 * q + a)) := sumOK.congr hTS (hQ q (by omega))
      obtain ⟨z0, z1, z2, z3, -⟩ := hQ q (by omega)
      have ec : ∀ a, a < 45 → J 0 57 (105 + 45 * q + a) = I 0 57 (105 + 45 * q + a) := fun a ha => fr _ _ (by omega)
      refine sumOK.up (sumOK.mod g0 (fun a ha h45 => ec a h45) ?_ ?_ ?_ ?_)
      · rw [ec 0 (by omega), fr (3 + 3) q (by omega)]; exact z0
      · rw [ec 0 (by omega)]; exact z1
      · rw [ec 1 (by omega), fr (3 + 4) q (by omega)]; exact z2
      · rw [ec 1 (by omega)]; exact z3
  · by_cases e : q = m
    · exact Or.inr ⟨k, by rw [tS_at e]⟩
    · rw [tS_ne e]; exact hTK q hq
  · exact KeptOK.up (hK.congr2 hTS (fr _ _ (by omega)) (fr _ _ (by omega)) (fun j i _ _ _ => fr _ _ (by omega)) (fun i _ => fr _ _ (by omega)))
theorem text_new {J : IFn} {k : Nat} {D1 D2 : List Int32} {C : Nat → Int32} (h0 : J (k + 1) 0 4 = C 0) (r0 : rng 2 39 (C 0)) (c1 : C 1 = nI D1.length) (c2 : C 2 = nI D2.length) (j3 : J (k + 1) 3 1 = nI D1.length) (j6 : J (k + 1) 6 1 = nI D2.length) (s1 : stkS (J (k + 1) 4) D1) (s2 : stkS (J (k + 1) 7) D2) (sf : stkF (fun i => C (3 + i)) (D2 ++ D1)) (hh1 : hgt D1 1) (hh2 : hgt D2 1) (hl : D1.length + D2.length ≤ 40) (hv : ∀ x, x < 100 → J (k + 1) 1 x = sideVal (cOf D1) D1.length (nI x) ∧ J (k + 1) 2 x = sideVal (cOf D2) D2.length (nI x)) : textOK J k C := by
  obtain ⟨f1, f2⟩ := stkF_app sf
  have f2' : stkF (fun i => C (3 + D1.length + i)) D2 := f2.keep (fun j hj => by show C (3 + D1.length + j) = C (3 + (D1.length + j)); rw [Nat.add_assoc])
  refine ⟨D1.length, D2.length, hl, h0, r0, c1, c2, j3, j6, stkS_rel s1 f1, stkS_rel s2 f2', side_ok f1 hh1 (by omega), side_ok f2' hh2 (by omega), fun x hx => ⟨?_, ?_⟩⟩
  · rw [(hv x hx).1]
    exact side_congr (stkF_eq (cOf_ok D1) f1) (nI x)
  · rw [(hv x hx).2]
    exact side_congr (stkF_eq (cOf_ok D2) f2') (nI x)
theorem ad2 (n : Nat) : nI n + 2 = nI (n + 2) := nI_add n 2
theorem ad3 (n : Nat) : nI n + 3 = nI (n + 3) := nI_add n 3
theorem ad4 (n : Nat) : nI n + 4 = nI (n + 4) := nI_add n 4
theorem sb_n (a b : Nat) : nI (a + b) - nI b = nI a := by rw [← nI_add, Int32.add_sub_cancel]
