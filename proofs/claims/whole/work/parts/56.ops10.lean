/-! strict, judge -/
abbrev lok (l : Option AV) : Prop := l = none ∨ ∃ y, l = some (vi y)
theorem lpL {α : Type} (A : Nat → Option AV → α) {N : Nat} (h : ∀ j l, j < N → lok l → ∃ y, A j l = A (j + 1) (some (vi y))) : ∀ j l, j ≤ N → lok l → ∃ l', lok l' ∧ A j l = A N l' := by
  intro j l hj hl
  induction hn : N - j generalizing j l with
  | zero => rw [show j = N by omega]; exact ⟨l, hl, rfl⟩
  | succ m ih =>
    obtain ⟨y, e⟩ := h j l (by omega) hl
    obtain ⟨l', h1, e2⟩ := ih (j + 1) (some (vi y)) (by omega) (Or.inr ⟨y, rfl⟩) (by omega)
    exact ⟨l', h1, e.trans e2⟩
theorem lpLE {α : Type} (A : Nat → IFn → Option AV → α) (P : Nat → IFn → Prop) {N : Nat} (h : ∀ j I l, j < N → P j I → lok l → ∃ J y, A j I l = A (j + 1) J (some (vi y)) ∧ P (j + 1) J) : ∀ j I l, j ≤ N → P j I → lok l → ∃ J l', lok l' ∧ A j I l = A N J l' ∧ P N J := by
  intro j I l hj hP hl
  induction hn : N - j generalizing j I l with
  | zero => rw [show j = N by omega] at hP ⊢; exact ⟨I, l, hl, rfl, hP⟩
  | succ m ih =>
    obtain ⟨J, y, e, hJ⟩ := h j I l (by omega) hP hl
    obtain ⟨K, l', h1, e2, hK⟩ := ih (j + 1) J (some (vi y)) (by omega) hJ (Or.inr ⟨y, rfl⟩) (by omega)
    exact ⟨K, l', h1, e.trans e2, hK⟩
def bsF (c : Nat → Nat) : Nat → Nat × Nat
  | 0 => (0, 101)
  | j + 1 => if 0 < c (j + 1) ∧ c (j + 1) < (bsF c j).2 then (j + 1, c (j + 1)) else bsF c j
theorem bs_t {c : Nat → Nat} {j : Nat} (h : 0 < c (j + 1) ∧ c (j + 1) < (bsF c j).2) : bsF c (j + 1) = (j + 1, c (j + 1)) := if_pos h
theorem bs_f {c : Nat → Nat} {j : Nat} (h : ¬ (0 < c (j + 1) ∧ c (j + 1) < (bsF c j).2)) : bsF c (j + 1) = bsF c j := if_neg h
theorem bs_ok {c : Nat → Nat} (hc : ∀ j, c j ≤ 100) : ∀ j, ((bsF c j).1 = 0 ∧ (bsF c j).2 = 101) ∨ (1 ≤ (bsF c j).1 ∧ (bsF c j).1 ≤ j ∧ (bsF c j).2 ≤ 100)
  | 0 => Or.inl ⟨rfl, rfl⟩
  | j + 1 => by
    by_cases h : 0 < c (j + 1) ∧ c (j + 1) < (bsF c j).2
    · rw [bs_t h]
      exact Or.inr ⟨by show 1 ≤ j + 1; omega, Nat.le_refl _, hc _⟩
    · rw [bs_f h]
      rcases bs_ok hc j with z | z
      · exact Or.inl z
      · exact Or.inr ⟨z.1, by have := z.2.1; omega, z.2.2⟩
def bI (p : Nat × Nat) : Int32 := if p.1 = 0 then -1 else nI p.1
def lI (p : Nat × Nat) : Int32 := if p.1 = 0 then 0 else nI p.2
theorem solW_congr {C C' : Nat → Int32} (h : ∀ a, a ≠ 1 → C' a = C a) (m : Int32) : solW C' m = solW C m := by
  funext x
  have e1 : (fun i => C' (2 + (3 + i))) = fun i => C (2 + (3 + i)) := funext fun i => h _ (by omega)
  have e2 : (fun i => C' (2 + (3 + (C 3).toNatClampNeg + i))) = fun i => C (2 + (3 + (C 3).toNatClampNeg + i)) := funext fun i => h _ (by omega)
  rw [solW, solW, lC, lC, rC, rC, h 0 (by omega), h 3 (by omega), h 4 (by omega), e1, e2]
theorem gt0 {n : Nat} (h : n < 2147483648) : ((0 : Int32) < nI n) = (0 < n) := propext (nI_ltI (a := 0) (by decide) h)
/-- strict -/
theorem ok_9 : op_9 Inv := by
  intro a1 I t1 t2 k sc hI
  obtain ⟨n, n8, c0, c0', c1, c2, c3, c4, ht, hQ⟩ := hI.head
  have xI := fun x => x_isSum 8 I t1 t2 k sc n8 c0' ht x
  by_cases h1 : 0 ≤ a1.toInt ∧ a1.toInt < (n : Int)
  · obtain ⟨q, hq, rfl⟩ := nat_of (x := a1) (m := n) h1.1 h1.2 (by omega)
    have hS : sumOK I (t1 q) k (I 0 6 q) (I 0 7 q) (cS I q) := hQ q hq
    generalize hc : (fun j => cB (solW (cS I q) (nI j)) 100) = c
    have hc' : ∀ j, cB (solW (cS I q) (nI j)) 100 = c j := fun j => by rw [← hc]
    have c100 : ∀ j, c j ≤ 100 := fun j => by rw [← hc' j]; exact cB_le _ _
    obtain ⟨lx, hlx, ex⟩ := lpL (fun j l => den (9 + 1, 7, 10, 23, [some (vr 0 0), some (vi (nI q)), some (vi (nI (bsF c j).1)), some (vi (nI (bsF c j).2)), some (vi (nI (j + 1))), l], [], mkH I t1 t2 k sc)) (N := 99)
      (by
        intro j l hj hl
        have hm0 : ¬ nI (j + 1) = 0 := nI_ne0 (by omega) (by omega)
        have xs := x_solvers 7 I t1 t2 k sc n8 c0' ht hq hm0 hS
        rw [hc'] at xs
        have hle : ¬ 99 < j + 1 := by omega
        have b1 := c100 (j + 1)
        have b2 := bs_ok c100 j
        refine ⟨nI (c (j + 1)), ?_⟩
        have mid : den (9 + 1, 7, 10, 23, [some (vr 0 0), some (vi (nI q)), some (vi (nI (bsF c j).1)), some (vi (nI (bsF c j).2)), some (vi (nI (j + 1))), l], [], mkH I t1 t2 k sc) = if 0 < c (j + 1) then den (9 + 1, 7, 10, 50, [some (vr 0 0), some (vi (nI q)), some (vi (nI (bsF c j).1)), some (vi (nI (bsF c j).2)), some (vi (nI (j + 1))), some (vi (nI (c (j + 1))))], [], mkH I t1 t2 k sc) else den (9 + 1, 7, 10, 62, [some (vr 0 0), some (vi (nI q)), some (vi (nI (bsF c j).1)), some (vi (nI (bsF c j).2)), some (vi (nI (j + 1))), some (vi (nI (c (j + 1))))], [], mkH I t1 t2 k sc) := by
          rcases hl with rfl | ⟨y, rfl⟩
          · rw [b7_10_23]
            simp (disch := omega) only [bnd, bnd0, ↓cdec, ↓cnot, ↓reduceIte, Bo_0, Bo_1, ↓Bo_ok, i10, i01, eq_self, decide_true, decide_false, Bool.or_true, Bool.true_or, Bool.or_false, Bool.false_or, cond_true, cond_false, not_true_eq_false, not_false_eq_true, Bool.false_eq_true, and_self, and_true, true_and, and_false, false_and, nI_clamp, ↓inbc, inb_n, nI_pos, nI_1, gt_99, hle, b7_10_30, b7_10_43, xs, gt0]
          · rw [b7_10_23w]
            simp (disch := omega) only [bnd, bnd0, ↓cdec, ↓cnot, ↓reduceIte, Bo_0, Bo_1, ↓Bo_ok, i10, i01, eq_self, decide_true, decide_false, Bool.or_true, Bool.true_or, Bool.or_false, Bool.false_or, cond_true, cond_false, not_true_eq_false, not_false_eq_true, Bool.false_eq_true, and_self, and_true, true_and, and_false, false_and, nI_clamp, ↓inbc, inb_n, nI_pos, nI_1, gt_99, hle, b7_10_30w, b7_10_43w, xs, gt0]
        rw [mid]
        by_cases g1 : 0 < c (j + 1)
        · by_cases g2' : c (j + 1) < (bsF c j).2
          · have g3 : nI (c (j + 1)) < nI (bsF c j).2 := nI_lt g2' (by omega)
            rw [if_pos g1, bs_t ⟨g1, g2'⟩]
            simp (disch := omega) only [bnd, bnd0, ↓cdec, ↓cnot, ↓reduceIte, Bo_0, Bo_1, ↓Bo_ok, i10, i01, eq_self, decide_true, decide_false, Bool.or_true, Bool.true_or, Bool.or_false, Bool.false_or, cond_true, cond_false, not_true_eq_false, not_false_eq_true, Bool.false_eq_true, and_self, and_true, true_and, and_false, false_and, nI_clamp, ↓inbc, inb_n, nI_pos, nI_1, b7_10_50, b7_10_56, b7_10_62, g3]
          · have g3 : ¬ nI (c (j + 1)) < nI (bsF c j).2 := nI_nlt (by omega) (by omega)
            rw [if_pos g1, bs_f (fun z => g2' z.2)]
            simp (disch := omega) only [bnd, bnd0, ↓cdec, ↓cnot, ↓reduceIte, Bo_0, Bo_1, ↓Bo_ok, i10, i01, eq_self, decide_true, decide_false, Bool.or_true, Bool.true_or, Bool.or_false, Bool.false_or, cond_true, cond_false, not_true_eq_false, not_false_eq_true, Bool.false_eq_true, and_self, and_true, true_and, and_false, false_and, nI_clamp, ↓inbc, inb_n, nI_pos, nI_1, b7_10_50, b7_10_62, g3]
        · rw [if_neg g1, bs_f (fun z => g1 z.1)]
          simp (disch := omega) only [bnd, bnd0, ↓cdec, ↓cnot, ↓reduceIte, Bo_0, Bo_1, ↓Bo_ok, i10, i01, eq_self, decide_true, decide_false, Bool.or_true, Bool.true_or, Bool.or_false, Bool.false_or, cond_true, cond_false, not_true_eq_false, not_false_eq_true, Bool.false_eq_true, and_self, and_true, true_and, and_false, false_and, nI_clamp, ↓inbc, inb_n, nI_pos, nI_1, b7_10_62]) 0 none (by omega) (Or.inl rfl)
    have hmL : ∀ I1 : IFn, (∀ i, I1 0 57 i = I 0 57 i) → ∃ J l', lok l' ∧ den (9 + 1, 8, 32, 30, [some (vr 0 56), some (vi (nI q)), some (vi (I 0 57 (105 + 45 * q + 1))), some (vi (bI (bsF c 0))), some (vi (lI (bsF c 0))), some (vi (nI (0 + 1))), none], [], mkH (I1) t1 t2 k sc) = den (9 + 1, 8, 32, 30, [some (vr 0 56), some (vi (nI q)), some (vi (I 0 57 (105 + 45 * q + 1))), some (vi (bI (bsF c 99))), some (vi (lI (bsF c 99))), some (vi (nI (99 + 1))), l'], [], mkH (J) t1 t2 k sc) ∧ ∃ v, F64 (uI I1 0 57 (105 + 45 * q + 1) v) J := by
      intro I1 hI1
      refine lpLE (fun j J l => den (9 + 1, 8, 32, 30, [some (vr 0 56), some (vi (nI q)), some (vi (I 0 57 (105 + 45 * q + 1))), some (vi (bI (bsF c j))), some (vi (lI (bsF c j))), some (vi (nI (j + 1))), l], [], mkH (J) t1 t2 k sc)) (fun j J => ∃ v, F64 (uI I1 0 57 (105 + 45 * q + 1) v) J) (N := 99) ?_ 0 I1 none (by omega) ⟨I1 0 57 (105 + 45 * q + 1), ?_⟩ (Or.inl rfl)
      · intro j J l hj ⟨v, hv⟩ hl
        have hC : ∀ a, a ≠ 1 → cS (uI J 0 57 (105 + 45 * q + 1) (nI (j + 1))) q a = cS I q a := by
          intro a ha
          show (uI J 0 57 (105 + 45 * q + 1) (nI (j + 1))) 0 57 (105 + 45 * q + a) = I 0 57 (105 + 45 * q + a)
          rw [uI_ne (by omega), hv _ _ _ (by omega), uI_ne (by omega), hI1]
        have hC1 : cS (uI J 0 57 (105 + 45 * q + 1) (nI (j + 1))) q 1 = nI (j + 1) := uI_at (by omega)
        have hS' : sumOK I (t1 q) k (cS (uI J 0 57 (105 + 45 * q + 1) (nI (j + 1))) q 0) (cS (uI J 0 57 (105 + 45 * q + 1) (nI (j + 1))) q 1) (cS (uI J 0 57 (105 + 45 * q + 1) (nI (j + 1))) q) := by
          refine sumOK.mod hS (fun a ha _ => hC a (by omega)) rfl ?_ rfl ?_
          · rw [hC 0 (by omega)]; exact hS.2.1
          · rw [hC1]; exact ⟨j + 1, by omega, by omega, rfl⟩
        obtain ⟨K, ms, hf⟩ := m_solvers 6 (uI J 0 57 (105 + 45 * q + 1) (nI (j + 1))) t1 t2 k sc (show q < 8 by omega) hS'
        have es : solC (cS (uI J 0 57 (105 + 45 * q + 1) (nI (j + 1))) q) = solW (cS I q) (nI (j + 1)) := by
          show solW _ (cS (uI J 0 57 (105 + 45 * q + 1) (nI (j + 1))) q 1) = _
          rw [hC1, solW_congr hC]
        rw [es, hc'] at ms
        have hlt : j + 1 < 100 := by omega
        have b1 := c100 (j + 1)
        have b2 := bs_ok c100 j
        have ei : (105 : Int32) + 45 * nI q + 1 = nI (105 + 45 * q + 1) := by rw [mul45, add105]; exact nI_add _ 1
        refine ⟨K, nI (c (j + 1)), ?_, nI (j + 1), ?_⟩
        · have mid : den (9 + 1, 8, 32, 30, [some (vr 0 56), some (vi (nI q)), some (vi (I 0 57 (105 + 45 * q + 1))), some (vi (bI (bsF c j))), some (vi (lI (bsF c j))), some (vi (nI (j + 1))), l], [], mkH (J) t1 t2 k sc) = if 0 < c (j + 1) then den (9 + 1, 8, 32, 65, [some (vr 0 56), some (vi (nI q)), some (vi (I 0 57 (105 + 45 * q + 1))), some (vi (bI (bsF c j))), some (vi (lI (bsF c j))), some (vi (nI (j + 1))), some (vi (nI (c (j + 1))))], [], mkH (K) t1 t2 k sc) else den (9 + 1, 8, 32, 83, [some (vr 0 56), some (vi (nI q)), some (vi (I 0 57 (105 + 45 * q + 1))), some (vi (bI (bsF c j))), some (vi (lI (bsF c j))), some (vi (nI (j + 1))), some (vi (nI (c (j + 1))))], [], mkH (K) t1 t2 k sc) := by
            rcases hl with rfl | ⟨y, rfl⟩
            · rw [b8_32_30]
              simp (disch := omega) only [bnd, bnd0, ↓cdec, ↓cnot, ↓reduceIte, Bo_0, Bo_1, ↓Bo_ok, i10, i01, eq_self, decide_true, decide_false, Bool.or_true, Bool.true_or, Bool.or_false, Bool.false_or, cond_true, cond_false, not_true_eq_false, not_false_eq_true, Bool.false_eq_true, and_self, and_true, true_and, and_false, false_and, nI_clamp, ↓inbc, inb_n, nI_pos, nI_1, lt_100, hlt, b8_32_37, ei, ms, b8_32_58, gt0]
            · rw [b8_32_30w]
              simp (disch := omega) only [bnd, bnd0, ↓cdec, ↓cnot, ↓reduceIte, Bo_0, Bo_1, ↓Bo_ok, i10, i01, eq_self, decide_true, decide_false, Bool.or_true, Bool.true_or, Bool.or_false, Bool.false_or, cond_true, cond_false, not_true_eq_false, not_false_eq_true, Bool.false_eq_true, and_self, and_true, true_and, and_false, false_and, nI_clamp, ↓inbc, inb_n, nI_pos, nI_1, lt_100, hlt, b8_32_37w, ei, ms, b8_32_58w, gt0]
          refine mid.trans ?_
          by_cases g1 : 0 < c (j + 1)
          · rw [if_pos g1]
            rcases b2 with ⟨z1, z2⟩ | ⟨z1, z2, z3⟩
            · have e1 : bI (bsF c j) = -1 := if_pos z1
              have l1 : (-1 : Int32) < 0 := by decide
              have e2 : bsF c (j + 1) = (j + 1, c (j + 1)) := bs_t ⟨g1, by omega⟩
              have e3 : bI (j + 1, c (j + 1)) = nI (j + 1) := if_neg (by show ¬ j + 1 = 0; omega)
              have e4 : lI (j + 1, c (j + 1)) = nI (c (j + 1)) := if_neg (by show ¬ j + 1 = 0; omega)
              rw [e2, e3, e4, e1]
              simp (disch := omega) only [bnd, bnd0, ↓cdec, ↓cnot, ↓reduceIte, Bo_0, Bo_1, ↓Bo_ok, i10, i01, eq_self, decide_true, decide_false, Bool.or_true, Bool.true_or, Bool.or_false, Bool.false_or, cond_true, cond_false, not_true_eq_false, not_false_eq_true, Bool.false_eq_true, and_self, and_true, true_and, and_false, false_and, nI_clamp, ↓inbc, inb_n, nI_pos, nI_1, b8_32_65, b8_32_76, b8_32_83, l1]
            · have e1 : bI (bsF c j) = nI (bsF c j).1 := if_neg (by omega)
              have e1' : lI (bsF c j) = nI (bsF c j).2 := if_neg (by omega)
              by_cases g2' : c (j + 1) < (bsF c j).2
              · have g3 : nI (c (j + 1)) < nI (bsF c j).2 := nI_lt g2' (by omega)
                have e2 : bsF c (j + 1) = (j + 1, c (j + 1)) := bs_t ⟨g1, g2'⟩
                have e3 : bI (j + 1, c (j + 1)) = nI (j + 1) := if_neg (by show ¬ j + 1 = 0; omega)
                have e4 : lI (j + 1, c (j + 1)) = nI (c (j + 1)) := if_neg (by show ¬ j + 1 = 0; omega)
                rw [e2, e3, e4, e1, e1']
                simp (disch := omega) only [bnd, bnd0, ↓cdec, ↓cnot, ↓reduceIte, Bo_0, Bo_1, ↓Bo_ok, i10, i01, eq_self, decide_true, decide_false, Bool.or_true, Bool.true_or, Bool.or_false, Bool.false_or, cond_true, cond_false, not_true_eq_false, not_false_eq_true, Bool.false_eq_true, and_self, and_true, true_and, and_false, false_and, nI_clamp, ↓inbc, inb_n, nI_pos, nI_1, b8_32_65, b8_32_69, b8_32_76, b8_32_83, g3]
              · have g3 : ¬ nI (c (j + 1)) < nI (bsF c j).2 := nI_nlt (by omega) (by omega)
                have e2 : bsF c (j + 1) = bsF c j := bs_f (fun z => g2' z.2)
                rw [e2, e1, e1']
                simp (disch := omega) only [bnd, bnd0, ↓cdec, ↓cnot, ↓reduceIte, Bo_0, Bo_1, ↓Bo_ok, i10, i01, eq_self, decide_true, decide_false, Bool.or_true, Bool.true_or, Bool.or_false, Bool.false_or, cond_true, cond_false, not_true_eq_false, not_false_eq_true, Bool.false_eq_true, and_self, and_true, true_and, and_false, false_and, nI_clamp, ↓inbc, inb_n, nI_pos, nI_1, b8_32_65, b8_32_69, b8_32_83, g3]
          · rw [if_neg g1, bs_f (fun z => g1 z.1)]
            simp (disch := omega) only [bnd, bnd0, ↓cdec, ↓cnot, ↓reduceIte, Bo_0, Bo_1, ↓Bo_ok, i10, i01, eq_self, decide_true, decide_false, Bool.or_true, Bool.true_or, Bool.or_false, Bool.false_or, cond_true, cond_false, not_true_eq_false, not_false_eq_true, Bool.false_eq_true, and_self, and_true, true_and, and_false, false_and, nI_clamp, ↓inbc, inb_n, nI_pos, nI_1, b8_32_83]
        · intro g j' i hn
          rw [hf _ _ _ hn]
          by_cases e : g = 0 ∧ j' = 57 ∧ i = 105 + 45 * q + 1
          · rw [uI_at e, uI_at e]
          · rw [uI_ne e, uI_ne e, hv _ _ _ hn, uI_ne e]
      · intro g j i hn
        by_cases e : g = 0 ∧ j = 57 ∧ i = 105 + 45 * q + 1
        · obtain ⟨rfl, rfl, rfl⟩ := e
          rw [uI_at (by omega)]
        · rw [uI_ne e]
    have hend : ∀ (I1 J : IFn) v, (∀ i, I1 0 57 i = I 0 57 i) → F64 (uI I1 0 57 (105 + 45 * q + 1) v) J → F64 I1 (uI J 0 57 (105 + 45 * q + 1) (I 0 57 (105 + 45 * q + 1))) := by
      intro I1 J v hI1 hv g j i hn
      by_cases e : g = 0 ∧ j = 57 ∧ i = 105 + 45 * q + 1
      · obtain ⟨rfl, rfl, rfl⟩ := e
        rw [uI_at (by omega), hI1]
      · rw [uI_ne e, hv _ _ _ hn, uI_ne e]
    have ei : (105 : Int32) + 45 * nI q + 1 = nI (105 + 45 * q + 1) := by rw [mul45, add105]; exact nI_add _ 1
    have b2 := bs_ok c100 99
    have hxs : den (10, 7, 10, 0, [some (vr 0 0), some (vi (nI q)), none, none, none, none], [], mkH I t1 t2 k sc) = den (9 + 1, 7, 10, 23, [some (vr 0 0), some (vi (nI q)), some (vi (nI (bsF c 99).1)), some (vi (nI (bsF c 99).2)), some (vi (nI (99 + 1))), lx], [], mkH I t1 t2 k sc) := by
      simp (disch := omega) only [bnd, bnd0, ↓cdec, ↓cnot, ↓reduceIte, Bo_0, Bo_1, ↓Bo_ok, i10, i01, eq_self, decide_true, decide_false, Bool.or_true, Bool.true_or, Bool.or_false, Bool.false_or, cond_true, cond_false, not_true_eq_false, not_false_eq_true, Bool.false_eq_true, and_self, and_true, true_and, and_false, false_and, nI_clamp, ↓inbc, inb_n, nI_pos, nI_1, b7_10_0, b7_10_5, b7_10_15, xI, h1]
      exact ex
    have hms : ∀ I1 : IFn, (∀ i, I1 0 57 i = I 0 57 i) → ∃ J, F64 I1 J ∧ (((bsF c 99).1 = 0 → den (10, 8, 32, 0, [some (vr 0 56), some (vi (nI q)), none, none, none, none, none], [], mkH (I1) t1 t2 k sc) = some (some (vi (-1000004)), mkH (uI J 0 60 3 (J 0 60 3 + 1)) t1 t2 k sc)) ∧ (¬ (bsF c 99).1 = 0 → den (10, 8, 32, 0, [some (vr 0 56), some (vi (nI q)), none, none, none, none, none], [], mkH (I1) t1 t2 k sc) = some (some (vi (nI (bsF c 99).1)), mkH (J) t1 t2 k sc))) := by
      intro I1 hI1
      obtain ⟨J, l', hl', em, v, hv⟩ := hmL I1 hI1
      refine ⟨_, hend I1 J v hI1 hv, fun z => ?_, fun z => ?_⟩
      · have hb : bI (bsF c 99) = -1 := if_pos z
        have l1 : (-1 : Int32) < 0 := by decide
        simp (disch := omega) only [bnd, bnd0, ↓cdec, ↓cnot, ↓reduceIte, Bo_0, Bo_1, ↓Bo_ok, i10, i01, eq_self, decide_true, decide_false, Bool.or_true, Bool.true_or, Bool.or_false, Bool.false_or, cond_true, cond_false, not_true_eq_false, not_false_eq_true, Bool.false_eq_true, and_self, and_true, true_and, and_false, false_and, nI_clamp, ↓inbc, inb_n, nI_pos, nI_1, b8_32_0, b8_32_5, b8_32_15, b8_32_21, m_isSum 8 I1 t1 t2 k sc n8 (show I1 0 57 0 = nI n by rw [hI1]; exact c0), h1, m_it1, hI1]
        refine Eq.trans em ?_
        rw [hb]
        rcases hl' with rfl | ⟨y, rfl⟩
        · rw [b8_32_30]
          simp (disch := omega) only [bnd, bnd0, ↓cdec, ↓cnot, ↓reduceIte, Bo_0, Bo_1, ↓Bo_ok, i10, i01, eq_self, decide_true, decide_false, Bool.or_true, Bool.true_or, Bool.or_false, Bool.false_or, cond_true, cond_false, not_true_eq_false, not_false_eq_true, Bool.false_eq_true, and_self, and_true, true_and, and_false, false_and, nI_clamp, ↓inbc, inb_n, nI_pos, nI_1, lt_100, Nat.reduceAdd, Nat.lt_irrefl, b8_32_89, ei, l1, b8_32_108, b8_32_114, b8_32_118, m_f3]
        · rw [b8_32_30w]
          simp (disch := omega) only [bnd, bnd0, ↓cdec, ↓cnot, ↓reduceIte, Bo_0, Bo_1, ↓Bo_ok, i10, i01, eq_self, decide_true, decide_false, Bool.or_true, Bool.true_or, Bool.or_false, Bool.false_or, cond_true, cond_false, not_true_eq_false, not_false_eq_true, Bool.false_eq_true, and_self, and_true, true_and, and_false, false_and, nI_clamp, ↓inbc, inb_n, nI_pos, nI_1, lt_100, Nat.reduceAdd, Nat.lt_irrefl, b8_32_89w, ei, l1, b8_32_108w, b8_32_114w, b8_32_118w, m_f3]
      · have hb : bI (bsF c 99) = nI (bsF c 99).1 := if_neg z
        simp (disch := omega) only [bnd, bnd0, ↓cdec, ↓cnot, ↓reduceIte, Bo_0, Bo_1, ↓Bo_ok, i10, i01, eq_self, decide_true, decide_false, Bool.or_true, Bool.true_or, Bool.or_false, Bool.false_or, cond_true, cond_false, not_true_eq_false, not_false_eq_true, Bool.false_eq_true, and_self, and_true, true_and, and_false, false_and, nI_clamp, ↓inbc, inb_n, nI_pos, nI_1, b8_32_0, b8_32_5, b8_32_15, b8_32_21, m_isSum 8 I1 t1 t2 k sc n8 (show I1 0 57 0 = nI n by rw [hI1]; exact c0), h1, m_it1, hI1]
        refine Eq.trans em ?_
        rw [hb]
        rcases hl' with rfl | ⟨y, rfl⟩
        · rw [b8_32_30]
          simp (disch := omega) only [bnd, bnd0, ↓cdec, ↓cnot, ↓reduceIte, Bo_0, Bo_1, ↓Bo_ok, i10, i01, eq_self, decide_true, decide_false, Bool.or_true, Bool.true_or, Bool.or_false, Bool.false_or, cond_true, cond_false, not_true_eq_false, not_false_eq_true, Bool.false_eq_true, and_self, and_true, true_and, and_false, false_and, nI_clamp, ↓inbc, inb_n, nI_pos, nI_1, lt_100, Nat.reduceAdd, Nat.lt_irrefl, b8_32_89, ei, b8_32_117, b8_32_118]
        · rw [b8_32_30w]
          simp (disch := omega) only [bnd, bnd0, ↓cdec, ↓cnot, ↓reduceIte, Bo_0, Bo_1, ↓Bo_ok, i10, i01, eq_self, decide_true, decide_false, Bool.or_true, Bool.true_or, Bool.or_false, Bool.false_or, cond_true, cond_false, not_true_eq_false, not_false_eq_true, Bool.false_eq_true, and_self, and_true, true_and, and_false, false_and, nI_clamp, ↓inbc, inb_n, nI_pos, nI_1, lt_100, Nat.reduceAdd, Nat.lt_irrefl, b8_32_89w, ei, b8_32_117w, b8_32_118w]
    have l99 : (99 : Int32) < nI (99 + 1) := by decide
    by_cases hz : (bsF c 99).1 = 0
    · obtain ⟨J, hf, hm, -⟩ := hms (uI I 0 47 3 (I 0 47 3 + 1)) (fun i => uI_ne (by omega))
      refine ⟨-1000004, uI I 0 47 3 (I 0 47 3 + 1), _, t1, t2, k, hxs.trans ?_, hm hz, hI.find64 (f := 3) (by omega) hf, by omega⟩
      have z0 : ¬ (0 : Int32) < 0 := by decide
      rw [hz, nI_0]
      rcases hlx with rfl | ⟨y, rfl⟩
      · rw [b7_10_23]
        simp (disch := omega) only [bnd, bnd0, ↓cdec, ↓cnot, ↓reduceIte, Bo_0, Bo_1, ↓Bo_ok, i10, i01, eq_self, decide_true, decide_false, Bool.or_true, Bool.true_or, Bool.or_false, Bool.false_or, cond_true, cond_false, not_true_eq_false, not_false_eq_true, Bool.false_eq_true, and_self, and_true, true_and, and_false, false_and, nI_clamp, ↓inbc, inb_n, nI_pos, nI_1, l99, z0, b7_10_68, b7_10_76, b7_10_82, x_f3]
      · rw [b7_10_23w]
        simp (disch := omega) only [bnd, bnd0, ↓cdec, ↓cnot, ↓reduceIte, Bo_0, Bo_1, ↓Bo_ok, i10, i01, eq_self, decide_true, decide_false, Bool.or_true, Bool.true_or, Bool.or_false, Bool.false_or, cond_true, cond_false, not_true_eq_false, not_false_eq_true, Bool.false_eq_true, and_self, and_true, true_and, and_false, false_and, nI_clamp, ↓inbc, inb_n, nI_pos, nI_1, l99, z0, b7_10_68w, b7_10_76w, b7_10_82w, x_f3]
    · obtain ⟨J, hf, -, hm⟩ := hms I (fun i => rfl)
      refine ⟨nI (bsF c 99).1, I, J, t1, t2, k, hxs.trans ?_, hm hz, hI.garb hf.al, by omega⟩
      have z0 : (0 : Int32) < nI (bsF c 99).1 := by rw [gt0 (by omega)]; omega
      rcases hlx with rfl | ⟨y, rfl⟩
      · rw [b7_10_23]
        simp (disch := omega) only [bnd, bnd0, ↓cdec, ↓cnot, ↓reduceIte, Bo_0, Bo_1, ↓Bo_ok, i10, i01, eq_self, decide_true, decide_false, Bool.or_true, Bool.true_or, Bool.or_false, Bool.false_or, cond_true, cond_false, not_true_eq_false, not_false_eq_true, Bool.false_eq_true, and_self, and_true, true_and, and_false, false_and, nI_clamp, ↓inbc, inb_n, nI_pos, nI_1, l99, z0, b7_10_68, b7_10_72, b7_10_82]
      · rw [b7_10_23w]
        simp (disch := omega) only [bnd, bnd0, ↓cdec, ↓cnot, ↓reduceIte, Bo_0, Bo_1, ↓Bo_ok, i10, i01, eq_self, decide_true, decide_false, Bool.or_true, Bool.true_or, Bool.or_false, Bool.false_or, cond_true, cond_false, not_true_eq_false, not_false_eq_true, Bool.false_eq_true, and_self, and_true, true_and, and_false, false_and, nI_clamp, ↓inbc, inb_n, nI_pos, nI_1, l99, z0, b7_10_68w, b7_10_72w, b7_10_82w]
  · have mI := m_isSum 8 (uI I 0 47 0 (I 0 47 0 + 1)) t1 t2 k sc n8 (by rw [uI_ne (by omega)]; exact c0)
    refine ⟨-1000001, uI I 0 47 0 (I 0 47 0 + 1), _, t1, t2, k, ?_, ?_, hI.find (f := 0) (by omega), by omega⟩
    · simp (disch := omega) only [bnd, bnd0, ↓cdec, ↓cnot, ↓reduceIte, Bo_0, Bo_1, ↓Bo_ok, i10, i01, eq_self, decide_true, decide_false, Bool.or_true, Bool.true_or, Bool.or_false, Bool.false_or, cond_true, cond_false, not_true_eq_false, not_false_eq_true, Bool.false_eq_true, and_self, and_true, true_and, and_false, false_and, nI_clamp, ↓inbc, inb_n, nI_pos, nI_1, b7_10_0, b7_10_5, b7_10_8, b7_10_14, xI, h1, x_f0]
    · simp (disch := omega) only [bnd, bnd0, ↓cdec, ↓cnot, ↓reduceIte, Bo_0, Bo_1, ↓Bo_ok, i10, i01, eq_self, decide_true, decide_false, Bool.or_true, Bool.true_or, Bool.or_false, Bool.false_or, cond_true, cond_false, not_true_eq_false, not_false_eq_true, Bool.false_eq_true, and_self, and_true, true_and, and_false, false_and, nI_clamp, ↓inbc, inb_n, nI_pos, nI_1, b8_32_0, b8_32_5, b8_32_8, b8_32_14, mI, h1, m_f0]
/-- how far a sheet is right -/
def jF (f : Nat → Bool) (N : Nat → Int32) (len : Nat) : Nat → Nat → Nat → Int32
  | 0, _, r => if r = len then 0 else nI (1 + r)
  | m + 1, x, r => if f x = true then (if r = len then nI (1 + r) else if N r = nI x then jF f N len m (x + 1) (r + 1) else nI (1 + r)) else jF f N len m (x + 1) r
theorem add1 (n : Nat) : (1 : Int32) + nI n = nI (1 + n) := nI_add 1 n
/-- judge -/
theorem ok_35 : op_35 Inv := by
  intro a1 a2 I t1 t2 k sc hI
  obtain ⟨n, n8, c0, c0', c1, c2, c3, c4, ht, hQ⟩ := hI.head
  have xI := fun x => x_isSum 8 I t1 t2 k sc n8 c0' ht x
  by_cases h1 : 0 ≤ a1.toInt ∧ a1.toInt ≤ 3
  · obtain ⟨s, hs, rfl⟩ := nat_of (x := a1) (m := 4) h1.1 (by omega) (by omega)
    obtain ⟨b, w, hb, hw, x1, m1, x2, m2, hrow⟩ := hI.2.2.1 s hs
    by_cases hb0 : b = 0
    · have x0 : I 0 (48 + 2 * s) 1 = 0 := by rw [x1, hb0, nI_0]
      have m0 : I 0 67 s = 0 := by rw [m1, hb0, nI_0]
      refine ⟨-1000006, uI I 0 47 5 (I 0 47 5 + 1), _, t1, t2, k, ?_, ?_, hI.find (f := 5) (by omega), by omega⟩
      · simp (disch := omega) only [bnd, bnd0, ↓cdec, ↓cnot, ↓reduceIte, Bo_0, Bo_1, ↓Bo_ok, i10, i01, eq_self, decide_true, decide_false, Bool.or_true, Bool.true_or, Bool.or_false, Bool.false_or, cond_true, cond_false, not_true_eq_false, not_false_eq_true, Bool.false_eq_true, and_self, and_true, true_and, and_false, false_and, nI_clamp, ↓inbc, inb_n, nI_pos, nI_1, b7_36_0, b7_36_5, b7_36_15, b7_36_21, b7_36_26, b7_36_29, b7_36_35, x_isSheet, h1, rR45, x_isMissing, x0, x_f5]
      · simp (disch := omega) only [bnd, bnd0, ↓cdec, ↓cnot, ↓reduceIte, Bo_0, Bo_1, ↓Bo_ok, i10, i01, eq_self, decide_true, decide_false, Bool.or_true, Bool.true_or, Bool.or_false, Bool.false_or, cond_true, cond_false, not_true_eq_false, not_false_eq_true, Bool.false_eq_true, and_self, and_true, true_and, and_false, false_and, nI_clamp, ↓inbc, inb_n, nI_pos, nI_1, b8_76_0, b8_76_5, b8_76_10, b8_76_15, b8_72_0, b8_72_4, b8_72_7, b8_72_12, b8_72_21, b8_72_26, b8_72_27, m_isOne, h1, uI_ne, m0, im6, m_f5]
    · by_cases h2 : 0 ≤ a2.toInt ∧ a2.toInt < (n : Int)
      · obtain ⟨q, hq, rfl⟩ := nat_of (x := a2) (m := n) h2.1 h2.2 (by omega)
        have hS : sumOK I (t1 q) k (I 0 6 q) (I 0 7 q) (cS I q) := hQ q hq
        have lx : ∀ m x r, x + m = 100 → r ≤ w → den (9 + 1, 7, 36, 57, [some (vr 0 0), some (vi (nI s)), some (vi (nI q)), some (vr 0 (48 + 2 * s)), some (vi (nI r)), some (vi (nI x))], [], mkH I t1 t2 k sc) = some (some (vi (jF (solC (cS I q)) (fun i => I 0 69 (40 * s + i)) w m x r)), mkH I t1 t2 k sc) := by
          intro m
          induction m with
          | zero =>
            intro x r hx hr
            have : ¬ x < 100 := by omega
            rw [b7_36_57, jF]
            by_cases e : r = w
            · subst e
              simp (disch := omega) only [bnd, bnd0, ↓cdec, ↓cnot, ↓reduceIte, Bo_0, Bo_1, ↓Bo_ok, i10, i01, eq_self, decide_true, decide_false, Bool.or_true, Bool.true_or, Bool.or_false, Bool.false_or, cond_true, cond_false, not_true_eq_false, not_false_eq_true, Bool.false_eq_true, and_self, and_true, true_and, and_false, false_and, nI_clamp, ↓inbc, inb_n, nI_pos, nI_1, lt_100, this, b7_36_115, b7_36_124, b7_36_132, x2]
            · have e' : ¬ nI r = nI w := fun z => e ((nI_eq (by omega) (by omega)).mp z)
              simp (disch := omega) only [bnd, bnd0, ↓cdec, ↓cnot, ↓reduceIte, Bo_0, Bo_1, ↓Bo_ok, i10, i01, eq_self, decide_true, decide_false, Bool.or_true, Bool.true_or, Bool.or_false, Bool.false_or, cond_true, cond_false, not_true_eq_false, not_false_eq_true, Bool.false_eq_true, and_self, and_true, true_and, and_false, false_and, nI_clamp, ↓inbc, inb_n, nI_pos, nI_1, lt_100, this, b7_36_115, b7_36_128, b7_36_132, x2, e, e', add1]
          | succ m ih =>
            intro x r hx hr
            have hx' : x < 100 := by omega
            have s1 := x_solC 7 I t1 t2 k sc n8 c0' ht hq hx' hS
            rw [b7_36_57, jF]
            by_cases g1 : solC (cS I q) x = true
            · by_cases e : r = w
              · have e' : ¬ nI r < nI w := nI_nlt (by omega) (by omega)
                simp (disch := omega) only [bnd, bnd0, ↓cdec, ↓cnot, ↓reduceIte, Bo_0, Bo_1, ↓Bo_ok, i10, i01, eq_self, decide_true, decide_false, Bool.or_true, Bool.true_or, Bool.or_false, Bool.false_or, cond_true, cond_false, not_true_eq_false, not_false_eq_true, Bool.false_eq_true, and_self, and_true, true_and, and_false, false_and, nI_clamp, ↓inbc, inb_n, nI_pos, nI_1, lt_100, hx', b7_36_64, b7_36_77, b7_36_80, b7_36_101, s1, g1, x2, e', add1]
                rw [if_pos e]
              · have e' : nI r < nI w := nI_lt (by omega) (by omega)
                have en : I 0 (48 + 2 * s + 1) r = I 0 69 (40 * s + r) := by rw [← hrow r (by omega), show 48 + 2 * s + 1 = 49 + 2 * s by omega]
                by_cases g2' : I 0 69 (40 * s + r) = nI x
                · simp (disch := omega) only [bnd, bnd0, ↓cdec, ↓cnot, ↓reduceIte, Bo_0, Bo_1, ↓Bo_ok, i10, i01, eq_self, decide_true, decide_false, Bool.or_true, Bool.true_or, Bool.or_false, Bool.false_or, cond_true, cond_false, not_true_eq_false, not_false_eq_true, Bool.false_eq_true, and_self, and_true, true_and, and_false, false_and, nI_clamp, ↓inbc, inb_n, nI_pos, nI_1, lt_100, hx', b7_36_64, b7_36_77, b7_36_80, b7_36_89, b7_36_106, b7_36_109, s1, g1, x2, e', e, en, g2']
                  exact ih (x + 1) (r + 1) (by omega) (by omega)
                · simp (disch := omega) only [bnd, bnd0, ↓cdec, ↓cnot, ↓reduceIte, Bo_0, Bo_1, ↓Bo_ok, i10, i01, eq_self, decide_true, decide_false, Bool.or_true, Bool.true_or, Bool.or_false, Bool.false_or, cond_true, cond_false, not_true_eq_false, not_false_eq_true, Bool.false_eq_true, and_self, and_true, true_and, and_false, false_and, nI_clamp, ↓inbc, inb_n, nI_pos, nI_1, lt_100, hx', b7_36_64, b7_36_77, b7_36_80, b7_36_89, b7_36_101, s1, g1, x2, e', e, en, g2', add1]
            · simp (disch := omega) only [bnd, bnd0, ↓cdec, ↓cnot, ↓reduceIte, Bo_0, Bo_1, ↓Bo_ok, i10, i01, eq_self, decide_true, decide_false, Bool.or_true, Bool.true_or, Bool.or_false, Bool.false_or, cond_true, cond_false, not_true_eq_false, not_false_eq_true, Bool.false_eq_true, and_self, and_true, true_and, and_false, false_and, nI_clamp, ↓inbc, inb_n, nI_pos, nI_1, lt_100, hx', b7_36_64, b7_36_77, b7_36_109, s1, g1]
              exact ih (x + 1) r (by omega) (by omega)
        have lm : ∀ m x r (J : IFn), F64 I J → x + m = 100 → r ≤ w → ∃ J', F64 I J' ∧ den (9 + 1, 8, 76, 37, [some (vr 0 56), some (vi (nI s)), some (vi (nI q)), some (vi 0), some (vi (nI r)), some (vi (nI x))], [], mkH (J) t1 t2 k sc) = some (some (vi (jF (solC (cS I q)) (fun i => I 0 69 (40 * s + i)) w m x r)), mkH (J') t1 t2 k sc) := by
          intro m
          induction m with
          | zero =>
            intro x r J hJ hx hr
            have : ¬ x < 100 := by omega
            have j2 : J 0 68 s = nI w := by rw [hJ _ _ _ (by omega)]; exact m2
            refine ⟨J, hJ, ?_⟩
            rw [b8_76_37, jF]
            by_cases e : r = w
            · subst e
              simp (disch := omega) only [bnd, bnd0, ↓cdec, ↓cnot, ↓reduceIte, Bo_0, Bo_1, ↓Bo_ok, i10, i01, eq_self, decide_true, decide_false, Bool.or_true, Bool.true_or, Bool.or_false, Bool.false_or, cond_true, cond_false, not_true_eq_false, not_false_eq_true, Bool.false_eq_true, and_self, and_true, true_and, and_false, false_and, nI_clamp, ↓inbc, inb_n, nI_pos, nI_1, lt_100, this, b8_76_96, b8_76_107, b8_76_115, j2]
            · have e' : ¬ nI r = nI w := fun z => e ((nI_eq (by omega) (by omega)).mp z)
              simp (disch := omega) only [bnd, bnd0, ↓cdec, ↓cnot, ↓reduceIte, Bo_0, Bo_1, ↓Bo_ok, i10, i01, eq_self, decide_true, decide_false, Bool.or_true, Bool.true_or, Bool.or_false, Bool.false_or, cond_true, cond_false, not_true_eq_false, not_false_eq_true, Bool.false_eq_true, and_self, and_true, true_and, and_false, false_and, nI_clamp, ↓inbc, inb_n, nI_pos, nI_1, lt_100, this, b8_76_96, b8_76_111, b8_76_115, j2, e, e', add1]
          | succ m ih =>
            intro x r J hJ hx hr
            have hx' : x < 100 := by omega
            have hc := hJ.cS q
            obtain ⟨J1, s1, f1⟩ := m_isSolved 7 J t1 t2 k sc (show q < 8 by omega) hx' (by rw [hc]; exact hS)
            rw [hc] at s1
            have j2 : J1 0 68 s = nI w := by rw [f1 _ _ _ (by omega), hJ _ _ _ (by omega)]; exact m2
            have j3 : J1 0 69 (40 * s + r) = I 0 69 (40 * s + r) := by rw [f1 _ _ _ (by omega), hJ _ _ _ (by omega)]
            by_cases g1 : solC (cS I q) x = true
            · by_cases e : r = w
              · refine ⟨J1, hJ.trans f1, ?_⟩
                rw [b8_76_37, jF]
                subst e
                simp (disch := omega) only [bnd, bnd0, ↓cdec, ↓cnot, ↓reduceIte, Bo_0, Bo_1, ↓Bo_ok, i10, i01, eq_self, decide_true, decide_false, Bool.or_true, Bool.true_or, Bool.or_false, Bool.false_or, cond_true, cond_false, not_true_eq_false, not_false_eq_true, Bool.false_eq_true, and_self, and_true, true_and, and_false, false_and, nI_clamp, ↓inbc, inb_n, nI_pos, nI_1, lt_100, hx', b8_76_44, b8_76_51, b8_76_54, b8_76_82, s1, g1, j2, add1]
              · have e' : ¬ nI r = nI w := fun z => e ((nI_eq (by omega) (by omega)).mp z)
                by_cases g2' : I 0 69 (40 * s + r) = nI x
                · obtain ⟨J', f', em⟩ := ih (x + 1) (r + 1) J1 (hJ.trans f1) (by omega) (by omega)
                  refine ⟨J', f', ?_⟩
                  rw [b8_76_37, jF]
                  simp (disch := omega) only [bnd, bnd0, ↓cdec, ↓cnot, ↓reduceIte, Bo_0, Bo_1, ↓Bo_ok, i10, i01, eq_self, decide_true, decide_false, Bool.or_true, Bool.true_or, Bool.or_false, Bool.false_or, cond_true, cond_false, not_true_eq_false, not_false_eq_true, Bool.false_eq_true, and_self, and_true, true_and, and_false, false_and, nI_clamp, ↓inbc, inb_n, nI_pos, nI_1, lt_100, hx', b8_76_44, b8_76_51, b8_76_54, b8_76_65, b8_76_87, b8_76_90, s1, g1, j2, e, e', mul40, nI_add, j3, g2']
                  exact em
                · refine ⟨J1, hJ.trans f1, ?_⟩
                  rw [b8_76_37, jF]
                  simp (disch := omega) only [bnd, bnd0, ↓cdec, ↓cnot, ↓reduceIte, Bo_0, Bo_1, ↓Bo_ok, i10, i01, eq_self, decide_true, decide_false, Bool.or_true, Bool.true_or, Bool.or_false, Bool.false_or, cond_true, cond_false, not_true_eq_false, not_false_eq_true, Bool.false_eq_true, and_self, and_true, true_and, and_false, false_and, nI_clamp, ↓inbc, inb_n, nI_pos, nI_1, lt_100, hx', b8_76_44, b8_76_51, b8_76_54, b8_76_65, b8_76_82, s1, g1, j2, e, e', mul40, nI_add, j3, g2', add1]
            · obtain ⟨J', f', em⟩ := ih (x + 1) r J1 (hJ.trans f1) (by omega) (by omega)
              refine ⟨J', f', ?_⟩
              rw [b8_76_37, jF]
              simp (disch := omega) only [bnd, bnd0, ↓cdec, ↓cnot, ↓reduceIte, Bo_0, Bo_1, ↓Bo_ok, i10, i01, eq_self, decide_true, decide_false, Bool.or_true, Bool.true_or, Bool.or_false, Bool.false_or, cond_true, cond_false, not_true_eq_false, not_false_eq_true, Bool.false_eq_true, and_self, and_true, true_and, and_false, false_and, nI_clamp, ↓inbc, inb_n, nI_pos, nI_1, lt_100, hx', b8_76_44, b8_76_51, b8_76_90, s1, g1]
              exact em
        obtain ⟨J, hf, em⟩ := lm 100 0 0 I F64.rfl (by omega) (by omega)
        refine ⟨jF (solC (cS I q)) (fun i => I 0 69 (40 * s + i)) w 100 0 0, I, J, t1, t2, k, ?_, ?_, hI.garb hf.al, by omega⟩
        · simp (disch := omega) only [bnd, bnd0, ↓cdec, ↓cnot, ↓reduceIte, Bo_0, Bo_1, ↓Bo_ok, i10, i01, eq_self, decide_true, decide_false, Bool.or_true, Bool.true_or, Bool.or_false, Bool.false_or, cond_true, cond_false, not_true_eq_false, not_false_eq_true, Bool.false_eq_true, and_self, and_true, true_and, and_false, false_and, nI_clamp, ↓inbc, inb_n, nI_pos, nI_1, b7_36_0, b7_36_5, b7_36_15, b7_36_21, b7_36_26, b7_36_36, b7_36_41, b7_36_51, x_isSheet, h1, rR45, x_isMissing, x1, eq_0, hb0, xI, h2]
          exact lx 100 0 0 (by omega) (by omega)
        · simp (disch := omega) only [bnd, bnd0, ↓cdec, ↓cnot, ↓reduceIte, Bo_0, Bo_1, ↓Bo_ok, i10, i01, eq_self, decide_true, decide_false, Bool.or_true, Bool.true_or, Bool.or_false, Bool.false_or, cond_true, cond_false, not_true_eq_false, not_false_eq_true, Bool.false_eq_true, and_self, and_true, true_and, and_false, false_and, nI_clamp, ↓inbc, inb_n, nI_pos, nI_1, b8_76_0, b8_76_5, b8_76_16, b8_76_21, b8_76_31, b8_72_0, b8_72_4, b8_72_7, b8_72_12, b8_72_21, b8_72_26, b8_72_27, m_isOne, h1, m1, eq_0, hb0, m_isSum 8 I t1 t2 k sc n8 c0, h2]
          exact em
      · have mI := m_isSum 8 (uI I 0 47 0 (I 0 47 0 + 1)) t1 t2 k sc n8 (by rw [uI_ne (by omega)]; exact c0)
        refine ⟨-1000001, uI I 0 47 0 (I 0 47 0 + 1), _, t1, t2, k, ?_, ?_, hI.find (f := 0) (by omega), by omega⟩
        · simp (disch := omega) only [bnd, bnd0, ↓cdec, ↓cnot, ↓reduceIte, Bo_0, Bo_1, ↓Bo_ok, i10, i01, eq_self, decide_true, decide_false, Bool.or_true, Bool.true_or, Bool.or_false, Bool.false_or, cond_true, cond_false, not_true_eq_false, not_false_eq_true, Bool.false_eq_true, and_self, and_true, true_and, and_false, false_and, nI_clamp, ↓inbc, inb_n, nI_pos, nI_1, b7_36_0, b7_36_5, b7_36_15, b7_36_21, b7_36_26, b7_36_36, b7_36_41, b7_36_44, b7_36_50, x_isSheet, h1, rR45, x_isMissing, x1, eq_0, hb0, xI, h2, x_f0]
        · simp (disch := omega) only [bnd, bnd0, ↓cdec, ↓cnot, ↓reduceIte, Bo_0, Bo_1, ↓Bo_ok, i10, i01, eq_self, decide_true, decide_false, Bool.or_true, Bool.true_or, Bool.or_false, Bool.false_or, cond_true, cond_false, not_true_eq_false, not_false_eq_true, Bool.false_eq_true, and_self, and_true, true_and, and_false, false_and, nI_clamp, ↓inbc, inb_n, nI_pos, nI_1, b8_76_0, b8_76_5, b8_76_16, b8_76_21, b8_76_24, b8_76_30, b8_72_0, b8_72_4, b8_72_7, b8_72_12, b8_72_21, b8_72_26, b8_72_27, m_isOne, h1, uI_ne, m1, eq_0, hb0, mI, h2, m_f0]
  · refine ⟨-1000001, uI I 0 47 0 (I 0 47 0 + 1), _, t1, t2, k, ?_, ?_, hI.find (f := 0) (by omega), by omega⟩
    · simp (disch := omega) only [bnd, bnd0, ↓cdec, ↓cnot, ↓reduceIte, Bo_0, Bo_1, ↓Bo_ok, i10, i01, eq_self, decide_true, decide_false, Bool.or_true, Bool.true_or, Bool.or_false, Bool.false_or, cond_true, cond_false, not_true_eq_false, not_false_eq_true, Bool.false_eq_true, and_self, and_true, true_and, and_false, false_and, nI_clamp, ↓inbc, inb_n, nI_pos, nI_1, b7_36_0, b7_36_5, b7_36_8, b7_36_14, x_isSheet, h1, x_f0]
    · simp (disch := omega) only [bnd, bnd0, ↓cdec, ↓cnot, ↓reduceIte, Bo_0, Bo_1, ↓Bo_ok, i10, i01, eq_self, decide_true, decide_false, Bool.or_true, Bool.true_or, Bool.or_false, Bool.false_or, cond_true, cond_false, not_true_eq_false, not_false_eq_true, Bool.false_eq_true, and_self, and_true, true_and, and_false, false_and, nI_clamp, ↓inbc, inb_n, nI_pos, nI_1, b8_76_0, b8_76_5, b8_76_10, b8_76_15, b8_72_0, b8_72_4, b8_72_7, b8_72_12, b8_72_21, b8_72_26, b8_72_27, m_isOne, h1, im1, m_f0]
