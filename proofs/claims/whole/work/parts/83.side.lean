/-! a Side being read, over the heap mkS -/
def pilR (b c : Int32) : Prop := (c = -7 ∧ b = 40) ∨ (c = -2 ∧ b = 43) ∨ (c = -3 ∧ b = 45) ∨ (c = -4 ∧ b = 42) ∨ (c = -5 ∧ b = 47) ∨ (c = -6 ∧ b = 37)
def stkP (f : Nat → Int32) : List Int32 → Prop
  | [] => True
  | c :: r => pilR (f r.length) c ∧ stkP f r
def stkS (f : Nat → Int32) : List Int32 → Prop
  | [] => True
  | c :: r => stepRel (f r.length) c ∧ stkS f r
theorem stkP.keep {f g : Nat → Int32} : ∀ {st : List Int32}, (∀ j, j < st.length → g j = f j) → stkP f st → stkP g st
  | [], _, _ => trivial
  | v :: r, h, w => ⟨by rw [h _ (by simp)]; exact w.1, stkP.keep (fun j hj => h j (by simp; omega)) w.2⟩
theorem stkS.keep {f g : Nat → Int32} : ∀ {st : List Int32}, (∀ j, j < st.length → g j = f j) → stkS f st → stkS g st
  | [], _, _ => trivial
  | v :: r, h, w => ⟨by rw [h _ (by simp)]; exact w.1, stkS.keep (fun j hj => h j (by simp; omega)) w.2⟩
theorem stkS_rel {f C : Nat → Int32} : ∀ {st : List Int32}, stkS f st → stkF C st → ∀ i, i < st.length → stepRel (f i) (C i)
  | [], _, _, i, h => by simp at h
  | c :: r, hf, hg, i, h => by
    by_cases e : i = r.length
    · subst e; rw [hg.1]; exact hf.1
    · exact stkS_rel hf.2 hg.2 i (by simp only [List.length_cons] at h; omega)
theorem sg_pil {b : Nat} (h : ¬ sgC b = 0) : pilR (nI b) (sgC b) := by
  unfold sgC at h ⊢
  by_cases h1 : b = 43
  · rw [if_pos h1, h1]; exact Or.inr (Or.inl ⟨rfl, rfl⟩)
  · rw [if_neg h1] at h ⊢
    by_cases h2 : b = 45
    · rw [if_pos h2, h2]; exact Or.inr (Or.inr (Or.inl ⟨rfl, rfl⟩))
    · rw [if_neg h2] at h ⊢
      by_cases h3 : b = 42
      · rw [if_pos h3, h3]; exact Or.inr (Or.inr (Or.inr (Or.inl ⟨rfl, rfl⟩)))
      · rw [if_neg h3] at h ⊢
        by_cases h4 : b = 47
        · rw [if_pos h4, h4]; exact Or.inr (Or.inr (Or.inr (Or.inr (Or.inl ⟨rfl, rfl⟩))))
        · rw [if_neg h4] at h ⊢
          by_cases h5 : b = 37
          · rw [if_pos h5, h5]; exact Or.inr (Or.inr (Or.inr (Or.inr (Or.inr ⟨rfl, rfl⟩))))
          · rw [if_neg h5] at h; exact absurd rfl h
theorem sg_nd {b : Nat} (h : ¬ sgC b = 0) : isD b = false ∧ ¬ b = 120 ∧ ¬ b = 40 ∧ ¬ b = 41 ∧ ¬ b = 61 := by
  have : b = 43 ∨ b = 45 ∨ b = 42 ∨ b = 47 ∨ b = 37 := by
    unfold sgC at h
    by_cases h1 : b = 43
    · omega
    · rw [if_neg h1] at h
      by_cases h2 : b = 45
      · omega
      · rw [if_neg h2] at h
        by_cases h3 : b = 42
        · omega
        · rw [if_neg h3] at h
          by_cases h4 : b = 47
          · omega
          · rw [if_neg h4] at h
            by_cases h5 : b = 37
            · omega
            · rw [if_neg h5] at h; exact absurd rfl h
  rcases this with rfl | rfl | rfl | rfl | rfl <;> decide
theorem pil_step {b c : Int32} (h : pilR b c) (h7 : ¬ c = -7) : stepRel (-b) c := by
  rcases h with ⟨rfl, rfl⟩ | ⟨rfl, rfl⟩ | ⟨rfl, rfl⟩ | ⟨rfl, rfl⟩ | ⟨rfl, rfl⟩ | ⟨rfl, rfl⟩
  · exact absurd rfl h7
  · exact Or.inr (Or.inr (Or.inl ⟨rfl, by decide⟩))
  · exact Or.inr (Or.inr (Or.inr (Or.inl ⟨rfl, by decide⟩)))
  · exact Or.inr (Or.inr (Or.inr (Or.inr (Or.inl ⟨rfl, by decide⟩))))
  · exact Or.inr (Or.inr (Or.inr (Or.inr (Or.inr (Or.inl ⟨rfl, by decide⟩)))))
  · exact Or.inr (Or.inr (Or.inr (Or.inr (Or.inr (Or.inr ⟨rfl, by decide⟩)))))
def SX (J : IFn) (e q : Nat) (pl dn : List Int32) : Prop := J (e + 1) q 1 = nI dn.length ∧ J (e + 1) q 3 = nI pl.length ∧ stkS (J (e + 1) (q + 1)) dn ∧ stkP (J (e + 1) (q + 2)) pl
def FS (e q : Nat) (I J : IFn) : Prop := ∀ g j i, ¬ (g = e + 1 ∧ ((j = q ∧ (i = 1 ∨ i = 3)) ∨ j = q + 1 ∨ j = q + 2)) → J g j i = I g j i
theorem FS.rfl {e q : Nat} {I : IFn} : FS e q I I := fun _ _ _ _ => Eq.refl _
theorem FS.trans {e q : Nat} {I J K : IFn} (h : FS e q I J) (h2 : FS e q J K) : FS e q I K := fun g j i z => (h2 g j i z).trans (h g j i z)
theorem n43 : ¬ (43 : Int32) = 40 := by decide
theorem n45 : ¬ (45 : Int32) = 40 := by decide
theorem n45' : ¬ (45 : Int32) = 43 := by decide
theorem n42 : ¬ (42 : Int32) = 40 := by decide
theorem n42' : ¬ (42 : Int32) = 43 := by decide
theorem n42'' : ¬ (42 : Int32) = 45 := by decide
theorem n47 : ¬ (47 : Int32) = 40 := by decide
theorem n47' : ¬ (47 : Int32) = 43 := by decide
theorem n47'' : ¬ (47 : Int32) = 45 := by decide
theorem n37 : ¬ (37 : Int32) = 40 := by decide
theorem n37' : ¬ (37 : Int32) = 43 := by decide
theorem n37'' : ¬ (37 : Int32) = 45 := by decide
section
variable (d : Nat) (I : IFn) (t1 t2 : TFn) (k : Nat) (v0 v1 : Option (Nat × Nat)) (al : Nat × Nat) (sc : Nat × (Nat → Int32))
theorem s_isD {b : Nat} (hb : b < 256) : den (d, 4, 5, 0, [some (vi (nI b))], [], mkS I t1 t2 k v0 v1 al sc) = some (some (vi (bN (isD b))), mkS I t1 t2 k v0 v1 al sc) := by
  by_cases h1 : b < 48
  · rw [show isD b = false by simp [isD]; omega]
    simp (disch := omega) only [bnd, bnd0, ↓cdec, ↓cnot, ↓reduceIte, Bo_0, Bo_1, ↓Bo_ok, i10, i01, eq_self, decide_true, decide_false, Bool.or_true, Bool.true_or, Bool.or_false, Bool.false_or, cond_true, cond_false, not_true_eq_false, not_false_eq_true, Bool.false_eq_true, and_self, and_true, true_and, and_false, false_and, nI_clamp, ↓inbc, inb_n, nI_pos, nI_1, s4_5_0, s4_5_16, s4_5_17, lt_48, h1]
    rfl
  · by_cases h2 : 57 < b
    · rw [show isD b = false by simp [isD]; omega]
      simp (disch := omega) only [bnd, bnd0, ↓cdec, ↓cnot, ↓reduceIte, Bo_0, Bo_1, ↓Bo_ok, i10, i01, eq_self, decide_true, decide_false, Bool.or_true, Bool.true_or, Bool.or_false, Bool.false_or, cond_true, cond_false, not_true_eq_false, not_false_eq_true, Bool.false_eq_true, and_self, and_true, true_and, and_false, false_and, nI_clamp, ↓inbc, inb_n, nI_pos, nI_1, s4_5_0, s4_5_6, s4_5_16, s4_5_17, lt_48, gt_57, h1, h2]
      rfl
    · rw [show isD b = true by simp [isD]; omega]
      simp (disch := omega) only [bnd, bnd0, ↓cdec, ↓cnot, ↓reduceIte, Bo_0, Bo_1, ↓Bo_ok, i10, i01, eq_self, decide_true, decide_false, Bool.or_true, Bool.true_or, Bool.or_false, Bool.false_or, cond_true, cond_false, not_true_eq_false, not_false_eq_true, Bool.false_eq_true, and_self, and_true, true_and, and_false, false_and, nI_clamp, ↓inbc, inb_n, nI_pos, nI_1, s4_5_0, s4_5_6, s4_5_12, s4_5_17, lt_48, gt_57, h1, h2]
      rfl
theorem s_rank {b c : Int32} (h : pilR b c) : den (d, 2, 3, 0, [some (vi b)], [], mkS I t1 t2 k v0 v1 al sc) = some (some (vi (nI (rkC c))), mkS I t1 t2 k v0 v1 al sc) := by
  rcases h with ⟨rfl, rfl⟩ | ⟨rfl, rfl⟩ | ⟨rfl, rfl⟩ | ⟨rfl, rfl⟩ | ⟨rfl, rfl⟩ | ⟨rfl, rfl⟩
  · simp (disch := omega) only [bnd, bnd0, ↓cdec, ↓cnot, ↓reduceIte, Bo_0, Bo_1, ↓Bo_ok, i10, i01, eq_self, decide_true, decide_false, Bool.or_true, Bool.true_or, Bool.or_false, Bool.false_or, cond_true, cond_false, not_true_eq_false, not_false_eq_true, Bool.false_eq_true, and_self, and_true, true_and, and_false, false_and, nI_clamp, ↓inbc, inb_n, nI_pos, nI_1, s2_3_0, s2_3_6]
    rfl
  · simp (disch := omega) only [bnd, bnd0, ↓cdec, ↓cnot, ↓reduceIte, Bo_0, Bo_1, ↓Bo_ok, i10, i01, eq_self, decide_true, decide_false, Bool.or_true, Bool.true_or, Bool.or_false, Bool.false_or, cond_true, cond_false, not_true_eq_false, not_false_eq_true, Bool.false_eq_true, and_self, and_true, true_and, and_false, false_and, nI_clamp, ↓inbc, inb_n, nI_pos, nI_1, s2_3_0, s2_3_8, s2_3_20, s2_3_25, n43]
    rfl
  · simp (disch := omega) only [bnd, bnd0, ↓cdec, ↓cnot, ↓reduceIte, Bo_0, Bo_1, ↓Bo_ok, i10, i01, eq_self, decide_true, decide_false, Bool.or_true, Bool.true_or, Bool.or_false, Bool.false_or, cond_true, cond_false, not_true_eq_false, not_false_eq_true, Bool.false_eq_true, and_self, and_true, true_and, and_false, false_and, nI_clamp, ↓inbc, inb_n, nI_pos, nI_1, s2_3_0, s2_3_8, s2_3_14, s2_3_20, s2_3_25, n45, n45']
    rfl
  · simp (disch := omega) only [bnd, bnd0, ↓cdec, ↓cnot, ↓reduceIte, Bo_0, Bo_1, ↓Bo_ok, i10, i01, eq_self, decide_true, decide_false, Bool.or_true, Bool.true_or, Bool.or_false, Bool.false_or, cond_true, cond_false, not_true_eq_false, not_false_eq_true, Bool.false_eq_true, and_self, and_true, true_and, and_false, false_and, nI_clamp, ↓inbc, inb_n, nI_pos, nI_1, s2_3_0, s2_3_8, s2_3_14, s2_3_24, s2_3_25, n42, n42', n42'']
    rfl
  · simp (disch := omega) only [bnd, bnd0, ↓cdec, ↓cnot, ↓reduceIte, Bo_0, Bo_1, ↓Bo_ok, i10, i01, eq_self, decide_true, decide_false, Bool.or_true, Bool.true_or, Bool.or_false, Bool.false_or, cond_true, cond_false, not_true_eq_false, not_false_eq_true, Bool.false_eq_true, and_self, and_true, true_and, and_false, false_and, nI_clamp, ↓inbc, inb_n, nI_pos, nI_1, s2_3_0, s2_3_8, s2_3_14, s2_3_24, s2_3_25, n47, n47', n47'']
    rfl
  · simp (disch := omega) only [bnd, bnd0, ↓cdec, ↓cnot, ↓reduceIte, Bo_0, Bo_1, ↓Bo_ok, i10, i01, eq_self, decide_true, decide_false, Bool.or_true, Bool.true_or, Bool.or_false, Bool.false_or, cond_true, cond_false, not_true_eq_false, not_false_eq_true, Bool.false_eq_true, and_self, and_true, true_and, and_false, false_and, nI_clamp, ↓inbc, inb_n, nI_pos, nI_1, s2_3_0, s2_3_8, s2_3_14, s2_3_24, s2_3_25, n37, n37', n37'']
    rfl
theorem s_max {n : Nat} (hn : n ≤ 4000) : den (d, 11, 0, 0, [some (vi 0), some (vi (nI n))], [], mkS I t1 t2 k v0 v1 al sc) = some (some (vi (nI n)), mkS I t1 t2 k v0 v1 al sc) := by
  by_cases h : 0 < n
  · simp (disch := omega) only [bnd, bnd0, ↓cdec, ↓cnot, ↓reduceIte, Bo_0, Bo_1, ↓Bo_ok, i10, i01, eq_self, decide_true, decide_false, Bool.or_true, Bool.true_or, Bool.or_false, Bool.false_or, cond_true, cond_false, not_true_eq_false, not_false_eq_true, Bool.false_eq_true, and_self, and_true, true_and, and_false, false_and, nI_clamp, ↓inbc, inb_n, nI_pos, nI_1, s11_0_0, s11_0_9, s11_0_10, gt0, h]
  · have h0 : n = 0 := by omega
    subst h0
    simp (disch := omega) only [bnd, bnd0, ↓cdec, ↓cnot, ↓reduceIte, Bo_0, Bo_1, ↓Bo_ok, i10, i01, eq_self, decide_true, decide_false, Bool.or_true, Bool.true_or, Bool.or_false, Bool.false_or, cond_true, cond_false, not_true_eq_false, not_false_eq_true, Bool.false_eq_true, and_self, and_true, true_and, and_false, false_and, nI_clamp, ↓inbc, inb_n, nI_pos, nI_1, s11_0_0, s11_0_5, s11_0_10, gt0, h]
    rfl
theorem s_add {e q n : Nat} (hq : q = 3 ∨ q = 6) (hn : n < 40) (h1 : I (e + 1) q 1 = nI n) (v : Int32) : den (d, 2, 4, 0, [some (vr (e + 1) q), some (vi v)], [], mkS I t1 t2 k v0 v1 al sc) = some (none, mkS (uI (uI I (e + 1) (q + 1) n v) (e + 1) q 1 (nI (n + 1))) t1 t2 k v0 v1 al sc) := by
  simp (disch := omega) only [bnd, bnd0, ↓cdec, ↓cnot, ↓reduceIte, Bo_0, Bo_1, ↓Bo_ok, i10, i01, eq_self, decide_true, decide_false, Bool.or_true, Bool.true_or, Bool.or_false, Bool.false_or, cond_true, cond_false, not_true_eq_false, not_false_eq_true, Bool.false_eq_true, and_self, and_true, true_and, and_false, false_and, nI_clamp, ↓inbc, inb_n, nI_pos, nI_1, s2_4_0, s2_4_7, s2_4_19, s2_4_39, h1, lt_40, hn, uI_ne]
theorem s_push {e q n : Nat} (hq : q = 3 ∨ q = 6) (hn : n < 40) (h3 : I (e + 1) q 3 = nI n) (v : Int32) : den (d, 2, 6, 0, [some (vr (e + 1) q), some (vi v)], [], mkS I t1 t2 k v0 v1 al sc) = some (none, mkS (uI (uI I (e + 1) (q + 2) n v) (e + 1) q 3 (nI (n + 1))) t1 t2 k v0 v1 al sc) := by
  simp (disch := omega) only [bnd, bnd0, ↓cdec, ↓cnot, ↓reduceIte, Bo_0, Bo_1, ↓Bo_ok, i10, i01, eq_self, decide_true, decide_false, Bool.or_true, Bool.true_or, Bool.or_false, Bool.false_or, cond_true, cond_false, not_true_eq_false, not_false_eq_true, Bool.false_eq_true, and_self, and_true, true_and, and_false, false_and, nI_clamp, ↓inbc, inb_n, nI_pos, nI_1, s2_6_0, s2_6_7, s2_6_19, s2_6_39, h3, lt_40, hn, uI_ne]
theorem s_len {e q n : Nat} (hq : q = 3 ∨ q = 6) (hn : n < 40) (h1 : I (e + 1) q 1 = nI (n + 1)) (v : Int32) : den (d, 2, 5, 0, [some (vr (e + 1) q), some (vi v)], [], mkS I t1 t2 k v0 v1 al sc) = some (none, mkS (uI I (e + 1) (q + 1) n (I (e + 1) (q + 1) n * 10 + v)) t1 t2 k v0 v1 al sc) := by
  have z : 0 < n + 1 := by omega
  have z2 : ¬ 40 < n + 1 := by omega
  have p1 : nI (n + 1) - 1 = nI n := nI_pred _
  simp (disch := omega) only [bnd, bnd0, ↓cdec, ↓cnot, ↓reduceIte, Bo_0, Bo_1, ↓Bo_ok, i10, i01, eq_self, decide_true, decide_false, Bool.or_true, Bool.true_or, Bool.or_false, Bool.false_or, cond_true, cond_false, not_true_eq_false, not_false_eq_true, Bool.false_eq_true, and_self, and_true, true_and, and_false, false_and, nI_clamp, ↓inbc, inb_n, nI_pos, nI_1, s2_5_0, s2_5_7, s2_5_19, s2_5_46, h1, gt0, gt_40, z, z2, p1]
end
section
variable (d : Nat) (I : IFn) (t1 t2 : TFn) (k : Nat) (v0 v1 : Option (Nat × Nat)) (al : Nat × Nat) (sc : Nat × (Nat → Int32))
theorem s_take {e q r : Nat} (hq : q = 3 ∨ q = 6) (hr1 : 1 ≤ r) (hr : r ≤ 2) : ∀ (pl dn : List Int32) (J : IFn), pl.length + dn.length ≤ 40 → SX J e q pl dn → ∃ K, FS e q J K ∧ den (d + 1, 2, 2, 0, [some (vr (e + 1) q), some (vi (nI r))], [], mkS (J) t1 t2 k v0 v1 al sc) = some (none, mkS (K) t1 t2 k v0 v1 al sc) ∧ SX K e q (popW r pl dn).1 (popW r pl dn).2 := by
  intro pl
  induction pl with
  | nil =>
    intro dn J h40 hp
    have hp' := hp
    obtain ⟨h1, h3, hS, hP⟩ := hp
    have h3' : J (e + 1) q 3 = nI 0 := h3
    have z : ¬ (0 : Nat) < 0 := by omega
    refine ⟨J, FS.rfl, ?_, hp'⟩
    rw [s2_2_0 d e hq]
    simp (disch := omega) only [bnd, bnd0, ↓cdec, ↓cnot, ↓reduceIte, Bo_0, Bo_1, ↓Bo_ok, i10, i01, eq_self, decide_true, decide_false, Bool.or_true, Bool.true_or, Bool.or_false, Bool.false_or, cond_true, cond_false, not_true_eq_false, not_false_eq_true, Bool.false_eq_true, and_self, and_true, true_and, and_false, false_and, nI_clamp, ↓inbc, inb_n, nI_pos, nI_1, h3', gt0, z, s2_2_64]
  | cons c pl ih =>
    intro dn J h40 hp
    have hp' := hp
    obtain ⟨h1, h3, hS, hP⟩ := hp
    have hl : (c :: pl).length = pl.length + 1 := by simp
    rw [hl] at h3 h40
    have p1 : nI (pl.length + 1) - 1 = nI pl.length := nI_pred _
    have z : 0 < pl.length + 1 := by omega
    have z2 : ¬ 40 < pl.length + 1 := by omega
    have rk := fun J => s_rank d J t1 t2 k v0 v1 al sc hP.1
    have hrk := rk_le c
    generalize hb : J (e + 1) (q + 2) pl.length = b at rk
    rw [popW]
    by_cases hk : rkC c < r
    · rw [if_pos (Or.inr hk)]
      refine ⟨J, FS.rfl, ?_, hp'⟩
      rw [s2_2_0 d e hq]
      simp (disch := omega) only [bnd, bnd0, ↓cdec, ↓cnot, ↓reduceIte, Bo_0, Bo_1, ↓Bo_ok, i10, i01, eq_self, decide_true, decide_false, Bool.or_true, Bool.true_or, Bool.or_false, Bool.false_or, cond_true, cond_false, not_true_eq_false, not_false_eq_true, Bool.false_eq_true, and_self, and_true, true_and, and_false, false_and, nI_clamp, ↓inbc, inb_n, nI_pos, nI_1, h3, gt0, gt_40, z, z2, s2_2_7, s2_2_19, s2_2_33, s2_2_64, p1, hb, rk, lt_nn, hk]
    · have h7 : ¬ c = -7 := by
        intro h
        rw [h] at hk
        exact hk (by show (0 : Nat) < r; omega)
      rw [if_neg (fun q => q.elim h7 hk)]
      have hst : stepRel (-b) c := by rw [← hb]; exact pil_step hP.1 h7
      have l1 : (uI J (e + 1) q 3 (nI pl.length)) (e + 1) q 1 = nI dn.length := by rw [uI_ne (by omega)]; exact h1
      have ad := s_add d (uI J (e + 1) q 3 (nI pl.length)) t1 t2 k v0 v1 al sc (e := e) hq (show dn.length < 40 by omega) l1 (-b)
      obtain ⟨K, f, e2, g⟩ := ih (c :: dn) (uI (uI (uI J (e + 1) q 3 (nI pl.length)) (e + 1) (q + 1) dn.length (-b)) (e + 1) q 1 (nI (dn.length + 1))) (by simp only [List.length_cons]; omega) ⟨by rw [uI_at (by omega)]; rfl, by rw [uI_ne (by omega), uI_ne (by omega), uI_at (by omega)], ⟨by rw [uI_ne (by omega), uI_at (by omega)]; exact hst, hS.keep (fun j hj => by rw [uI_ne (by omega), uI_ne (by omega), uI_ne (by omega)])⟩, hP.2.keep (fun j hj => by rw [uI_ne (by omega), uI_ne (by omega), uI_ne (by omega)])⟩
      refine ⟨K, FS.trans (fun g j i hn => by rw [uI_ne (by omega), uI_ne (by omega), uI_ne (by omega)]) f, Eq.trans ?_ e2, g⟩
      rw [s2_2_0 d e hq]
      simp (disch := omega) only [bnd, bnd0, ↓cdec, ↓cnot, ↓reduceIte, Bo_0, Bo_1, ↓Bo_ok, i10, i01, eq_self, decide_true, decide_false, Bool.or_true, Bool.true_or, Bool.or_false, Bool.false_or, cond_true, cond_false, not_true_eq_false, not_false_eq_true, Bool.false_eq_true, and_self, and_true, true_and, and_false, false_and, nI_clamp, ↓inbc, inb_n, nI_pos, nI_1, h3, gt0, gt_40, z, z2, s2_2_7, s2_2_19, s2_2_33, s2_2_37, s2_2_61, p1, hb, rk, lt_nn, hk, uI_at, uI_ne, ad]
end
section
variable (d : Nat) (I : IFn) (t1 t2 : TFn) (k : Nat) (v0 v1 : Option (Nat × Nat)) (al : Nat × Nat) (sc : Nat × (Nat → Int32))
theorem s_sg_x {e q : Nat} {pl dn : List Int32} (hq : q = 3 ∨ q = 6) (hl : pl.length + dn.length < 40) (hx : SX I e q pl dn) : ∃ K, FS e q I K ∧ den (d + 2, 2, 1, 0, [some (vr (e + 1) q), some (vi (nI 120))], [], mkS I t1 t2 k v0 v1 al sc) = some (none, mkS (K) t1 t2 k v0 v1 al sc) ∧ SX K e q pl (-1 :: dn) := by
  obtain ⟨h1, h3, hS, hP⟩ := hx
  have ad := s_add (d + 1) I t1 t2 k v0 v1 al sc (e := e) hq (show dn.length < 40 by omega) h1 (-(nI 120))
  have q0 : (nI 120 = (120 : Int32)) = True := eq_true rfl
  refine ⟨uI (uI I (e + 1) (q + 1) dn.length (-(nI 120))) (e + 1) q 1 (nI (dn.length + 1)), ?_, ?_, ?_⟩
  · exact fun g j i hn => by rw [uI_ne (by omega), uI_ne (by omega)]
  · simp (disch := omega) only [bnd, bnd0, ↓cdec, ↓cnot, ↓reduceIte, Bo_0, Bo_1, ↓Bo_ok, i10, i01, eq_self, decide_true, decide_false, Bool.or_true, Bool.true_or, Bool.or_false, Bool.false_or, cond_true, cond_false, not_true_eq_false, not_false_eq_true, Bool.false_eq_true, and_self, and_true, true_and, and_false, false_and, nI_clamp, ↓inbc, inb_n, nI_pos, nI_1, s2_1_0, s2_1_6, s2_1_12, s2_1_70, q0, ad]
  · exact ⟨by rw [uI_at (by omega)]; rfl, by rw [uI_ne (by omega), uI_ne (by omega)]; exact h3, ⟨by rw [uI_ne (by omega), uI_at (by omega)]; exact Or.inr (Or.inl ⟨rfl, by decide⟩), hS.keep (fun j hj => by rw [uI_ne (by omega), uI_ne (by omega)])⟩, hP.keep (fun j hj => by rw [uI_ne (by omega), uI_ne (by omega)])⟩
theorem s_sg_o {e q : Nat} {pl dn : List Int32} (hq : q = 3 ∨ q = 6) (hl : pl.length + dn.length < 40) (hx : SX I e q pl dn) : ∃ K, FS e q I K ∧ den (d + 2, 2, 1, 0, [some (vr (e + 1) q), some (vi (nI 40))], [], mkS I t1 t2 k v0 v1 al sc) = some (none, mkS (K) t1 t2 k v0 v1 al sc) ∧ SX K e q (-7 :: pl) dn := by
  obtain ⟨h1, h3, hS, hP⟩ := hx
  have pu := s_push (d + 1) I t1 t2 k v0 v1 al sc (e := e) hq (show pl.length < 40 by omega) h3 (nI 40)
  have q0 : (nI 40 = (120 : Int32)) = False := eq_false (by decide)
  have q1 : (nI 40 = (40 : Int32)) = True := eq_true rfl
  refine ⟨uI (uI I (e + 1) (q + 2) pl.length (nI 40)) (e + 1) q 3 (nI (pl.length + 1)), ?_, ?_, ?_⟩
  · exact fun g j i hn => by rw [uI_ne (by omega), uI_ne (by omega)]
  · simp (disch := omega) only [bnd, bnd0, ↓cdec, ↓cnot, ↓reduceIte, Bo_0, Bo_1, ↓Bo_ok, i10, i01, eq_self, decide_true, decide_false, Bool.or_true, Bool.true_or, Bool.or_false, Bool.false_or, cond_true, cond_false, not_true_eq_false, not_false_eq_true, Bool.false_eq_true, and_self, and_true, true_and, and_false, false_and, nI_clamp, ↓inbc, inb_n, nI_pos, nI_1, s2_1_0, s2_1_15, s2_1_21, s2_1_26, s2_1_70, q0, q1, pu]
  · exact ⟨by rw [uI_ne (by omega), uI_ne (by omega)]; exact h1, by rw [uI_at (by omega)]; rfl, hS.keep (fun j hj => by rw [uI_ne (by omega), uI_ne (by omega)]), ⟨by rw [uI_ne (by omega), uI_at (by omega)]; exact Or.inl ⟨rfl, rfl⟩, hP.keep (fun j hj => by rw [uI_ne (by omega), uI_ne (by omega)])⟩⟩
theorem s_sg_c {e q : Nat} {pl dn : List Int32} (hq : q = 3 ∨ q = 6) (hl : pl.length + dn.length ≤ 40) (hpa : 0 < paN pl) (hx : SX I e q pl dn) : ∃ K, FS e q I K ∧ den (d + 2, 2, 1, 0, [some (vr (e + 1) q), some (vi (nI 41))], [], mkS I t1 t2 k v0 v1 al sc) = some (none, mkS (K) t1 t2 k v0 v1 al sc) ∧ SX K e q (popW 1 pl dn).1.tail (popW 1 pl dn).2 := by
  obtain ⟨K, f, e2, g1, g3, gS, gP⟩ := s_take d t1 t2 k v0 v1 al sc (e := e) (r := 1) hq (by omega) (by omega) pl dn I hl hx
  have e2' : den (d + 1, 2, 2, 0, [some (vr (e + 1) q), some (vi 1)], [], mkS I t1 t2 k v0 v1 al sc) = some (none, mkS (K) t1 t2 k v0 v1 al sc) := e2
  have ep := pop_pa 1 pl dn
  have el := pop_len 1 pl dn
  rcases pop_one' pl dn with z | ⟨r, z⟩
  · rw [z] at ep
    have : paN [] = 0 := rfl
    omega
  · rw [z] at g3 gP el
    have g3' : K (e + 1) q 3 = nI (r.length + 1) := g3
    simp only [List.length_cons] at el
    have p1 : nI (r.length + 1) - 1 = nI r.length := nI_pred _
    have mx := s_max (d + 1) K t1 t2 k v0 v1 al sc (n := r.length) (by omega)
    have q0 : (nI 41 = (120 : Int32)) = False := eq_false (by decide)
    have q1 : (nI 41 = (40 : Int32)) = False := eq_false (by decide)
    have q2 : (nI 41 = (41 : Int32)) = True := eq_true rfl
    rw [z, List.tail_cons]
    refine ⟨uI K (e + 1) q 3 (nI r.length), f.trans (fun g j i hn => by rw [uI_ne (by omega)]), ?_, by rw [uI_ne (by omega)]; exact g1, by rw [uI_at (by omega)], gS.keep (fun j hj => by rw [uI_ne (by omega)]), gP.2.keep (fun j hj => by rw [uI_ne (by omega)])⟩
    simp (disch := omega) only [bnd, bnd0, ↓cdec, ↓cnot, ↓reduceIte, Bo_0, Bo_1, ↓Bo_ok, i10, i01, eq_self, decide_true, decide_false, Bool.or_true, Bool.true_or, Bool.or_false, Bool.false_or, cond_true, cond_false, not_true_eq_false, not_false_eq_true, Bool.false_eq_true, and_self, and_true, true_and, and_false, false_and, nI_clamp, ↓inbc, inb_n, nI_pos, nI_1, s2_1_0, s2_1_15, s2_1_29, s2_1_35, s2_1_40, s2_1_51, s2_1_70, q0, q1, q2, e2', g3', p1, mx]
theorem s_sg_s {e q b : Nat} {pl dn : List Int32} (hq : q = 3 ∨ q = 6) (hb : b < 256) (hl : pl.length + dn.length < 40) (hs : ¬ sgC b = 0) (hx : SX I e q pl dn) : ∃ K, FS e q I K ∧ den (d + 2, 2, 1, 0, [some (vr (e + 1) q), some (vi (nI b))], [], mkS I t1 t2 k v0 v1 al sc) = some (none, mkS (K) t1 t2 k v0 v1 al sc) ∧ SX K e q (sgC b :: (popW (rkC (sgC b)) pl dn).1) (popW (rkC (sgC b)) pl dn).2 := by
  have rk := s_rank (d + 1) I t1 t2 k v0 v1 al sc (sg_pil hs)
  obtain ⟨K, f, e2, g1, g3, gS, gP⟩ := s_take d t1 t2 k v0 v1 al sc (e := e) (r := rkC (sgC b)) hq (rk_pos (isg_7 (sg_isg hs))) (rk_le _) pl dn I (by omega) hx
  have el := pop_len (rkC (sgC b)) pl dn
  have pu := s_push (d + 1) K t1 t2 k v0 v1 al sc (e := e) hq (show (popW (rkC (sgC b)) pl dn).1.length < 40 by omega) g3 (nI b)
  obtain ⟨-, n120, n40, n41, -⟩ := sg_nd hs
  have qq : ∀ m : Nat, m < 256 → ∀ x : Int32, x = nI m → (nI b = x) = (b = m) := fun m hm x e => by rw [e]; exact eqN (by omega) (by omega)
  have q120 := qq 120 (by omega) 120 rfl
  have q40 := qq 40 (by omega) 40 rfl
  have q41 := qq 41 (by omega) 41 rfl
  refine ⟨uI (uI K (e + 1) (q + 2) (popW (rkC (sgC b)) pl dn).1.length (nI b)) (e + 1) q 3 (nI ((popW (rkC (sgC b)) pl dn).1.length + 1)), ?_, ?_, ?_⟩
  · exact fun g j i hn => by rw [uI_ne (by omega), uI_ne (by omega)]; exact f _ _ _ hn
  · simp (disch := omega) only [bnd, bnd0, ↓cdec, ↓cnot, ↓reduceIte, Bo_0, Bo_1, ↓Bo_ok, i10, i01, eq_self, decide_true, decide_false, Bool.or_true, Bool.true_or, Bool.or_false, Bool.false_or, cond_true, cond_false, not_true_eq_false, not_false_eq_true, Bool.false_eq_true, and_self, and_true, true_and, and_false, false_and, nI_clamp, ↓inbc, inb_n, nI_pos, nI_1, s2_1_0, s2_1_15, s2_1_29, s2_1_57, s2_1_62, s2_1_65, s2_1_70, q120, q40, q41, n120, n40, n41, rk, e2, pu]
  · exact ⟨by rw [uI_ne (by omega), uI_ne (by omega)]; exact g1, by rw [uI_at (by omega)]; rfl, gS.keep (fun j hj => by rw [uI_ne (by omega), uI_ne (by omega)]), ⟨by rw [uI_ne (by omega), uI_at (by omega)]; exact sg_pil hs, gP.keep (fun j hj => by rw [uI_ne (by omega), uI_ne (by omega)])⟩⟩
end
