/-! walking by simp: binds, branches, reads, loops -/
theorem bnd (v : AV) (h : AH) (d c i pc : Nat) (ls : List (Option AV)) (r : List AV) : (some (some v, h) : Option AO).bind (fun o => den (d, c, i, pc, ls, o.1.toList ++ r, o.2)) = den (d, c, i, pc, ls, v :: r, h) := rfl
theorem bnd0 (h : AH) (d c i pc : Nat) (ls : List (Option AV)) (r : List AV) : (some (none, h) : Option AO).bind (fun o => den (d, c, i, pc, ls, o.1.toList ++ r, o.2)) = den (d, c, i, pc, ls, r, h) := rfl
theorem cnot {α : Type} (b : Bool) (x y : α) : (bif !b then x else y) = bif b then y else x := by cases b <;> rfl
theorem Bo_1 (p : Prop) [Decidable p] : Bo p = 1 ↔ p := by
  by_cases h : p
  · rw [Bo_t h]; simp [h]
  · rw [Bo_f h]; simp [h]
theorem i10 : ((1 : Int32) = 0) = False := by decide
theorem i01 : ((0 : Int32) = 1) = False := by decide
theorem inbc {α : Type} {n m : Nat} {a b : α} (h : n < m) (hm : m ≤ 4000) : (bif inb (nI n) m then a else b) = a := by rw [inb_n h hm]; rfl
theorem uI_at {I : IFn} {g j i : Nat} {v : Int32} {g' j' i' : Nat} (h : g' = g ∧ j' = j ∧ i' = i) : uI I g j i v g' j' i' = v := if_pos h
theorem uI_ne {I : IFn} {g j i : Nat} {v : Int32} {g' j' i' : Nat} (h : ¬ (g' = g ∧ j' = j ∧ i' = i)) : uI I g j i v g' j' i' = I g' j' i' := if_neg h
theorem uA_at {I : IFn} {g j : Nat} {f : Nat → Int32} {g' j' i' : Nat} (h : g' = g ∧ j' = j) : uA I g j f g' j' i' = f i' := if_pos h
theorem uA_ne {I : IFn} {g j : Nat} {f : Nat → Int32} {g' j' i' : Nat} (h : ¬ (g' = g ∧ j' = j)) : uA I g j f g' j' i' = I g' j' i' := if_neg h
theorem lp {α : Type} (X : Nat → α) {N : Nat} (h : ∀ p, p < N → X p = X (p + 1)) : ∀ p, p ≤ N → X p = X N := by
  intro p hp
  induction hn : N - p generalizing p with
  | zero => rw [show p = N by omega]
  | succ m ih => rw [h p (by omega)]; exact ih (p + 1) (by omega) (by omega)
/-- a loop over heaps -/
theorem lpE {α : Type} (X : Nat → IFn → α) (P : Nat → IFn → Prop) {N : Nat} (h : ∀ p I, p < N → P p I → ∃ J, X p I = X (p + 1) J ∧ P (p + 1) J) : ∀ p I, p ≤ N → P p I → ∃ J, X p I = X N J ∧ P N J := by
  intro p I hp hP
  induction hn : N - p generalizing p I with
  | zero => rw [show p = N by omega] at hP ⊢; exact ⟨I, rfl, hP⟩
  | succ m ih =>
    obtain ⟨J, e, hJ⟩ := h p I (by omega) hP
    obtain ⟨K, e2, hK⟩ := ih (p + 1) J (by omega) hJ (by omega)
    exact ⟨K, e.trans e2, hK⟩
theorem lt_1 {n : Nat} (h : n < 2147483648) : (nI n < (1 : Int32)) = (n < 1) := propext (nI_ltI (b := 1) h (by decide))
theorem lt_2 {n : Nat} (h : n < 2147483648) : (nI n < (2 : Int32)) = (n < 2) := propext (nI_ltI (b := 2) h (by decide))
theorem lt_3 {n : Nat} (h : n < 2147483648) : (nI n < (3 : Int32)) = (n < 3) := propext (nI_ltI (b := 3) h (by decide))
theorem lt_4 {n : Nat} (h : n < 2147483648) : (nI n < (4 : Int32)) = (n < 4) := propext (nI_ltI (b := 4) h (by decide))
theorem lt_5 {n : Nat} (h : n < 2147483648) : (nI n < (5 : Int32)) = (n < 5) := propext (nI_ltI (b := 5) h (by decide))
theorem lt_6 {n : Nat} (h : n < 2147483648) : (nI n < (6 : Int32)) = (n < 6) := propext (nI_ltI (b := 6) h (by decide))
theorem lt_7 {n : Nat} (h : n < 2147483648) : (nI n < (7 : Int32)) = (n < 7) := propext (nI_ltI (b := 7) h (by decide))
theorem lt_8 {n : Nat} (h : n < 2147483648) : (nI n < (8 : Int32)) = (n < 8) := propext (nI_ltI (b := 8) h (by decide))
theorem lt_9 {n : Nat} (h : n < 2147483648) : (nI n < (9 : Int32)) = (n < 9) := propext (nI_ltI (b := 9) h (by decide))
theorem lt_10 {n : Nat} (h : n < 2147483648) : (nI n < (10 : Int32)) = (n < 10) := propext (nI_ltI (b := 10) h (by decide))
theorem lt_39 {n : Nat} (h : n < 2147483648) : (nI n < (39 : Int32)) = (n < 39) := propext (nI_ltI (b := 39) h (by decide))
theorem lt_40 {n : Nat} (h : n < 2147483648) : (nI n < (40 : Int32)) = (n < 40) := propext (nI_ltI (b := 40) h (by decide))
theorem lt_41 {n : Nat} (h : n < 2147483648) : (nI n < (41 : Int32)) = (n < 41) := propext (nI_ltI (b := 41) h (by decide))
theorem lt_99 {n : Nat} (h : n < 2147483648) : (nI n < (99 : Int32)) = (n < 99) := propext (nI_ltI (b := 99) h (by decide))
theorem lt_100 {n : Nat} (h : n < 2147483648) : (nI n < (100 : Int32)) = (n < 100) := propext (nI_ltI (b := 100) h (by decide))
theorem lt_160 {n : Nat} (h : n < 2147483648) : (nI n < (160 : Int32)) = (n < 160) := propext (nI_ltI (b := 160) h (by decide))
theorem lt_200 {n : Nat} (h : n < 2147483648) : (nI n < (200 : Int32)) = (n < 200) := propext (nI_ltI (b := 200) h (by decide))
theorem lt_281 {n : Nat} (h : n < 2147483648) : (nI n < (281 : Int32)) = (n < 281) := propext (nI_ltI (b := 281) h (by decide))
theorem lt_465 {n : Nat} (h : n < 2147483648) : (nI n < (465 : Int32)) = (n < 465) := propext (nI_ltI (b := 465) h (by decide))
theorem lt_480 {n : Nat} (h : n < 2147483648) : (nI n < (480 : Int32)) = (n < 480) := propext (nI_ltI (b := 480) h (by decide))
theorem lt_481 {n : Nat} (h : n < 2147483648) : (nI n < (481 : Int32)) = (n < 481) := propext (nI_ltI (b := 481) h (by decide))
theorem lt_999 {n : Nat} (h : n < 2147483648) : (nI n < (999 : Int32)) = (n < 999) := propext (nI_ltI (b := 999) h (by decide))
theorem lt_1000 {n : Nat} (h : n < 2147483648) : (nI n < (1000 : Int32)) = (n < 1000) := propext (nI_ltI (b := 1000) h (by decide))
theorem gt_1 {n : Nat} (h : n < 2147483648) : ((1 : Int32) < nI n) = (1 < n) := propext (nI_ltI (a := 1) (by decide) h)
theorem gt_2 {n : Nat} (h : n < 2147483648) : ((2 : Int32) < nI n) = (2 < n) := propext (nI_ltI (a := 2) (by decide) h)
theorem gt_3 {n : Nat} (h : n < 2147483648) : ((3 : Int32) < nI n) = (3 < n) := propext (nI_ltI (a := 3) (by decide) h)
theorem gt_4 {n : Nat} (h : n < 2147483648) : ((4 : Int32) < nI n) = (4 < n) := propext (nI_ltI (a := 4) (by decide) h)
theorem gt_5 {n : Nat} (h : n < 2147483648) : ((5 : Int32) < nI n) = (5 < n) := propext (nI_ltI (a := 5) (by decide) h)
theorem gt_6 {n : Nat} (h : n < 2147483648) : ((6 : Int32) < nI n) = (6 < n) := propext (nI_ltI (a := 6) (by decide) h)
theorem gt_7 {n : Nat} (h : n < 2147483648) : ((7 : Int32) < nI n) = (7 < n) := propext (nI_ltI (a := 7) (by decide) h)
theorem gt_8 {n : Nat} (h : n < 2147483648) : ((8 : Int32) < nI n) = (8 < n) := propext (nI_ltI (a := 8) (by decide) h)
theorem gt_9 {n : Nat} (h : n < 2147483648) : ((9 : Int32) < nI n) = (9 < n) := propext (nI_ltI (a := 9) (by decide) h)
theorem gt_10 {n : Nat} (h : n < 2147483648) : ((10 : Int32) < nI n) = (10 < n) := propext (nI_ltI (a := 10) (by decide) h)
theorem gt_39 {n : Nat} (h : n < 2147483648) : ((39 : Int32) < nI n) = (39 < n) := propext (nI_ltI (a := 39) (by decide) h)
theorem gt_40 {n : Nat} (h : n < 2147483648) : ((40 : Int32) < nI n) = (40 < n) := propext (nI_ltI (a := 40) (by decide) h)
theorem gt_41 {n : Nat} (h : n < 2147483648) : ((41 : Int32) < nI n) = (41 < n) := propext (nI_ltI (a := 41) (by decide) h)
theorem gt_99 {n : Nat} (h : n < 2147483648) : ((99 : Int32) < nI n) = (99 < n) := propext (nI_ltI (a := 99) (by decide) h)
theorem gt_100 {n : Nat} (h : n < 2147483648) : ((100 : Int32) < nI n) = (100 < n) := propext (nI_ltI (a := 100) (by decide) h)
theorem gt_160 {n : Nat} (h : n < 2147483648) : ((160 : Int32) < nI n) = (160 < n) := propext (nI_ltI (a := 160) (by decide) h)
theorem gt_200 {n : Nat} (h : n < 2147483648) : ((200 : Int32) < nI n) = (200 < n) := propext (nI_ltI (a := 200) (by decide) h)
theorem gt_281 {n : Nat} (h : n < 2147483648) : ((281 : Int32) < nI n) = (281 < n) := propext (nI_ltI (a := 281) (by decide) h)
theorem gt_465 {n : Nat} (h : n < 2147483648) : ((465 : Int32) < nI n) = (465 < n) := propext (nI_ltI (a := 465) (by decide) h)
theorem gt_480 {n : Nat} (h : n < 2147483648) : ((480 : Int32) < nI n) = (480 < n) := propext (nI_ltI (a := 480) (by decide) h)
theorem gt_481 {n : Nat} (h : n < 2147483648) : ((481 : Int32) < nI n) = (481 < n) := propext (nI_ltI (a := 481) (by decide) h)
theorem gt_999 {n : Nat} (h : n < 2147483648) : ((999 : Int32) < nI n) = (999 < n) := propext (nI_ltI (a := 999) (by decide) h)
theorem gt_1000 {n : Nat} (h : n < 2147483648) : ((1000 : Int32) < nI n) = (1000 < n) := propext (nI_ltI (a := 1000) (by decide) h)
theorem eq_0 {n : Nat} (h : n < 2147483648) : (nI n = (0 : Int32)) = (n = 0) := propext (nI_eq (b := 0) h (by decide))
theorem eq_1 {n : Nat} (h : n < 2147483648) : (nI n = (1 : Int32)) = (n = 1) := propext (nI_eq (b := 1) h (by decide))
theorem eq_2 {n : Nat} (h : n < 2147483648) : (nI n = (2 : Int32)) = (n = 2) := propext (nI_eq (b := 2) h (by decide))
theorem eq_3 {n : Nat} (h : n < 2147483648) : (nI n = (3 : Int32)) = (n = 3) := propext (nI_eq (b := 3) h (by decide))
theorem eq_4 {n : Nat} (h : n < 2147483648) : (nI n = (4 : Int32)) = (n = 4) := propext (nI_eq (b := 4) h (by decide))
theorem eq_5 {n : Nat} (h : n < 2147483648) : (nI n = (5 : Int32)) = (n = 5) := propext (nI_eq (b := 5) h (by decide))
theorem eq_6 {n : Nat} (h : n < 2147483648) : (nI n = (6 : Int32)) = (n = 6) := propext (nI_eq (b := 6) h (by decide))
theorem eq_7 {n : Nat} (h : n < 2147483648) : (nI n = (7 : Int32)) = (n = 7) := propext (nI_eq (b := 7) h (by decide))
theorem eq_8 {n : Nat} (h : n < 2147483648) : (nI n = (8 : Int32)) = (n = 8) := propext (nI_eq (b := 8) h (by decide))
theorem eq_9 {n : Nat} (h : n < 2147483648) : (nI n = (9 : Int32)) = (n = 9) := propext (nI_eq (b := 9) h (by decide))
theorem eq_10 {n : Nat} (h : n < 2147483648) : (nI n = (10 : Int32)) = (n = 10) := propext (nI_eq (b := 10) h (by decide))
theorem eq_39 {n : Nat} (h : n < 2147483648) : (nI n = (39 : Int32)) = (n = 39) := propext (nI_eq (b := 39) h (by decide))
theorem eq_40 {n : Nat} (h : n < 2147483648) : (nI n = (40 : Int32)) = (n = 40) := propext (nI_eq (b := 40) h (by decide))
theorem eq_41 {n : Nat} (h : n < 2147483648) : (nI n = (41 : Int32)) = (n = 41) := propext (nI_eq (b := 41) h (by decide))
theorem eq_99 {n : Nat} (h : n < 2147483648) : (nI n = (99 : Int32)) = (n = 99) := propext (nI_eq (b := 99) h (by decide))
theorem eq_100 {n : Nat} (h : n < 2147483648) : (nI n = (100 : Int32)) = (n = 100) := propext (nI_eq (b := 100) h (by decide))
theorem eq_160 {n : Nat} (h : n < 2147483648) : (nI n = (160 : Int32)) = (n = 160) := propext (nI_eq (b := 160) h (by decide))
theorem eq_200 {n : Nat} (h : n < 2147483648) : (nI n = (200 : Int32)) = (n = 200) := propext (nI_eq (b := 200) h (by decide))
theorem eq_281 {n : Nat} (h : n < 2147483648) : (nI n = (281 : Int32)) = (n = 281) := propext (nI_eq (b := 281) h (by decide))
theorem eq_465 {n : Nat} (h : n < 2147483648) : (nI n = (465 : Int32)) = (n = 465) := propext (nI_eq (b := 465) h (by decide))
theorem eq_480 {n : Nat} (h : n < 2147483648) : (nI n = (480 : Int32)) = (n = 480) := propext (nI_eq (b := 480) h (by decide))
theorem eq_481 {n : Nat} (h : n < 2147483648) : (nI n = (481 : Int32)) = (n = 481) := propext (nI_eq (b := 481) h (by decide))
theorem eq_999 {n : Nat} (h : n < 2147483648) : (nI n = (999 : Int32)) = (n = 999) := propext (nI_eq (b := 999) h (by decide))
theorem eq_1000 {n : Nat} (h : n < 2147483648) : (nI n = (1000 : Int32)) = (n = 1000) := propext (nI_eq (b := 1000) h (by decide))
theorem k32_0 : (0 : Int32).toInt = 0 := by decide
theorem k64_0 : (0 : Int64).toInt = 0 := by decide
theorem k32_1 : (1 : Int32).toInt = 1 := by decide
theorem k64_1 : (1 : Int64).toInt = 1 := by decide
theorem k32_2 : (2 : Int32).toInt = 2 := by decide
theorem k64_2 : (2 : Int64).toInt = 2 := by decide
theorem k32_3 : (3 : Int32).toInt = 3 := by decide
theorem k64_3 : (3 : Int64).toInt = 3 := by decide
theorem k32_4 : (4 : Int32).toInt = 4 := by decide
theorem k64_4 : (4 : Int64).toInt = 4 := by decide
theorem k32_5 : (5 : Int32).toInt = 5 := by decide
theorem k64_5 : (5 : Int64).toInt = 5 := by decide
theorem k32_6 : (6 : Int32).toInt = 6 := by decide
theorem k64_6 : (6 : Int64).toInt = 6 := by decide
theorem k32_7 : (7 : Int32).toInt = 7 := by decide
theorem k64_7 : (7 : Int64).toInt = 7 := by decide
theorem k32_8 : (8 : Int32).toInt = 8 := by decide
theorem k64_8 : (8 : Int64).toInt = 8 := by decide
theorem k32_9 : (9 : Int32).toInt = 9 := by decide
theorem k64_9 : (9 : Int64).toInt = 9 := by decide
theorem k32_10 : (10 : Int32).toInt = 10 := by decide
theorem k64_10 : (10 : Int64).toInt = 10 := by decide
theorem k32_19 : (19 : Int32).toInt = 19 := by decide
theorem k64_19 : (19 : Int64).toInt = 19 := by decide
theorem k32_40 : (40 : Int32).toInt = 40 := by decide
theorem k64_40 : (40 : Int64).toInt = 40 := by decide
theorem k32_99 : (99 : Int32).toInt = 99 := by decide
theorem k64_99 : (99 : Int64).toInt = 99 := by decide
theorem k32_100 : (100 : Int32).toInt = 100 := by decide
theorem k64_100 : (100 : Int64).toInt = 100 := by decide
theorem k32_200 : (200 : Int32).toInt = 200 := by decide
theorem k64_200 : (200 : Int64).toInt = 200 := by decide
theorem k32_480 : (480 : Int32).toInt = 480 := by decide
theorem k64_480 : (480 : Int64).toInt = 480 := by decide
theorem k32_999 : (999 : Int32).toInt = 999 := by decide
theorem k64_999 : (999 : Int64).toInt = 999 := by decide
theorem k32_m1 : (-1 : Int32).toInt = -1 := by decide
theorem k64_m1 : (-1 : Int64).toInt = -1 := by decide
theorem k51 : ((5 : Int32) - 1).toInt = 4 := by decide
theorem k71 : ((7 : Int32) - 1).toInt = 6 := by decide
theorem k41 : ((40 : Int32) - 1).toInt = 39 := by decide
theorem or0 (x : Int32) : x ||| 0 = x := by
  apply Int32.toBitVec_inj.mp
  rw [Int32.toBitVec_or]
  simp
theorem fS_t {f : Nat → Bool} {n : Nat} (h : f n = true) : fS f (n + 1) = fS f n ||| ((1 : Int32) <<< (nI n &&& 31)) := if_pos h
theorem fS_f {f : Nat → Bool} {n : Nat} (h : f n = false) : fS f (n + 1) = fS f n := if_neg (by rw [h]; decide)
def sF (f : Nat → Int32) : Nat → Int32
  | 0 => 0
  | n + 1 => sF f n + f n
theorem sF_congr {f g : Nat → Int32} : ∀ {n : Nat}, (∀ p, p < n → f p = g p) → sF f n = sF g n
  | 0, _ => rfl
  | n + 1, h => by rw [sF, sF, h n (Nat.lt_succ_self n), sF_congr (n := n) (fun p hp => h p (Nat.lt_succ_of_lt hp))]
/-- ones of a set -/
def cntF : Nat → Nat → Nat
  | 0, _ => 0
  | f + 1, m => if m = 0 then 0 else cntF f (m &&& (m - 1)) + 1
def cb (x : Int32) : Int32 := nI (cntF 10 x.toNatClampNeg)
theorem cb_n {m : Nat} (h : m < 1024) : cb (nI m) = nI (cntF 10 m) := by rw [cb, nI_clamp (by omega)]
theorem ones_key : ∀ m, m < 1024 → m ≠ 0 → nI m &&& (nI m - 1) = nI (m &&& (m - 1)) ∧ cntF 10 m = cntF 10 (m &&& (m - 1)) + 1 ∧ m &&& (m - 1) < m := by decide +kernel
def bcF (x0 : Int32) : Int32 := ((((((((x0 - ((jushr x0 1) &&& 1431655765)) &&& 858993459) + ((jushr (x0 - ((jushr x0 1) &&& 1431655765)) 2) &&& 858993459)) + (jushr (((x0 - ((jushr x0 1) &&& 1431655765)) &&& 858993459) + ((jushr (x0 - ((jushr x0 1) &&& 1431655765)) 2) &&& 858993459)) 4)) &&& 252645135) + (jushr (((((x0 - ((jushr x0 1) &&& 1431655765)) &&& 858993459) + ((jushr (x0 - ((jushr x0 1) &&& 1431655765)) 2) &&& 858993459)) + (jushr (((x0 - ((jushr x0 1) &&& 1431655765)) &&& 858993459) + ((jushr (x0 - ((jushr x0 1) &&& 1431655765)) 2) &&& 858993459)) 4)) &&& 252645135) 8)) + (jushr ((((((x0 - ((jushr x0 1) &&& 1431655765)) &&& 858993459) + ((jushr (x0 - ((jushr x0 1) &&& 1431655765)) 2) &&& 858993459)) + (jushr (((x0 - ((jushr x0 1) &&& 1431655765)) &&& 858993459) + ((jushr (x0 - ((jushr x0 1) &&& 1431655765)) 2) &&& 858993459)) 4)) &&& 252645135) + (jushr (((((x0 - ((jushr x0 1) &&& 1431655765)) &&& 858993459) + ((jushr (x0 - ((jushr x0 1) &&& 1431655765)) 2) &&& 858993459)) + (jushr (((x0 - ((jushr x0 1) &&& 1431655765)) &&& 858993459) + ((jushr (x0 - ((jushr x0 1) &&& 1431655765)) 2) &&& 858993459)) 4)) &&& 252645135) 8)) 16)) &&& 63)
theorem bc_key : ∀ m, m < 1024 → bcF (nI m) = nI (cntF 10 m) := by decide +kernel
def fil (v : Int32) (n : Nat) (f : Nat → Int32) : Nat → Int32 := fun i => if i < n then v else f i
section
variable (d : Nat) (I : IFn) (t1 t2 : TFn) (k : Nat) (sc : Nat × (Nat → Int32))
theorem mA_0 {p : Nat} (hp : p < 10) : den (d, 8, 3, 0, [some (vi (nI p)), some (vi 0)], [], mkH I t1 t2 k sc) = some (some (vi (nI (5 + 9 * p + 0))), mkH I t1 t2 k sc) := by
  rw [m_at, show (9 : Int32) * nI p = nI (9 * p) from (Int32.ofNat_mul 9 p).symm, show (5 : Int32) + nI (9 * p) = nI (5 + 9 * p) from nI_add 5 (9 * p), show nI (5 + 9 * p) + 0 = nI (5 + 9 * p + 0) from nI_add _ 0]
theorem mA_1 {p : Nat} (hp : p < 10) : den (d, 8, 3, 0, [some (vi (nI p)), some (vi 1)], [], mkH I t1 t2 k sc) = some (some (vi (nI (5 + 9 * p + 1))), mkH I t1 t2 k sc) := by
  rw [m_at, show (9 : Int32) * nI p = nI (9 * p) from (Int32.ofNat_mul 9 p).symm, show (5 : Int32) + nI (9 * p) = nI (5 + 9 * p) from nI_add 5 (9 * p), show nI (5 + 9 * p) + 1 = nI (5 + 9 * p + 1) from nI_add _ 1]
theorem mA_2 {p : Nat} (hp : p < 10) : den (d, 8, 3, 0, [some (vi (nI p)), some (vi 2)], [], mkH I t1 t2 k sc) = some (some (vi (nI (5 + 9 * p + 2))), mkH I t1 t2 k sc) := by
  rw [m_at, show (9 : Int32) * nI p = nI (9 * p) from (Int32.ofNat_mul 9 p).symm, show (5 : Int32) + nI (9 * p) = nI (5 + 9 * p) from nI_add 5 (9 * p), show nI (5 + 9 * p) + 2 = nI (5 + 9 * p + 2) from nI_add _ 2]
theorem mA_3 {p : Nat} (hp : p < 10) : den (d, 8, 3, 0, [some (vi (nI p)), some (vi 3)], [], mkH I t1 t2 k sc) = some (some (vi (nI (5 + 9 * p + 3))), mkH I t1 t2 k sc) := by
  rw [m_at, show (9 : Int32) * nI p = nI (9 * p) from (Int32.ofNat_mul 9 p).symm, show (5 : Int32) + nI (9 * p) = nI (5 + 9 * p) from nI_add 5 (9 * p), show nI (5 + 9 * p) + 3 = nI (5 + 9 * p + 3) from nI_add _ 3]
theorem mA_4 {p : Nat} (hp : p < 10) : den (d, 8, 3, 0, [some (vi (nI p)), some (vi 4)], [], mkH I t1 t2 k sc) = some (some (vi (nI (5 + 9 * p + 4))), mkH I t1 t2 k sc) := by
  rw [m_at, show (9 : Int32) * nI p = nI (9 * p) from (Int32.ofNat_mul 9 p).symm, show (5 : Int32) + nI (9 * p) = nI (5 + 9 * p) from nI_add 5 (9 * p), show nI (5 + 9 * p) + 4 = nI (5 + 9 * p + 4) from nI_add _ 4]
theorem mA_5 {p : Nat} (hp : p < 10) : den (d, 8, 3, 0, [some (vi (nI p)), some (vi 5)], [], mkH I t1 t2 k sc) = some (some (vi (nI (5 + 9 * p + 5))), mkH I t1 t2 k sc) := by
  rw [m_at, show (9 : Int32) * nI p = nI (9 * p) from (Int32.ofNat_mul 9 p).symm, show (5 : Int32) + nI (9 * p) = nI (5 + 9 * p) from nI_add 5 (9 * p), show nI (5 + 9 * p) + 5 = nI (5 + 9 * p + 5) from nI_add _ 5]
theorem mA_6 {p : Nat} (hp : p < 10) : den (d, 8, 3, 0, [some (vi (nI p)), some (vi 6)], [], mkH I t1 t2 k sc) = some (some (vi (nI (5 + 9 * p + 6))), mkH I t1 t2 k sc) := by
  rw [m_at, show (9 : Int32) * nI p = nI (9 * p) from (Int32.ofNat_mul 9 p).symm, show (5 : Int32) + nI (9 * p) = nI (5 + 9 * p) from nI_add 5 (9 * p), show nI (5 + 9 * p) + 6 = nI (5 + 9 * p + 6) from nI_add _ 6]
theorem mA_7 {p : Nat} (hp : p < 10) : den (d, 8, 3, 0, [some (vi (nI p)), some (vi 7)], [], mkH I t1 t2 k sc) = some (some (vi (nI (5 + 9 * p + 7))), mkH I t1 t2 k sc) := by
  rw [m_at, show (9 : Int32) * nI p = nI (9 * p) from (Int32.ofNat_mul 9 p).symm, show (5 : Int32) + nI (9 * p) = nI (5 + 9 * p) from nI_add 5 (9 * p), show nI (5 + 9 * p) + 7 = nI (5 + 9 * p + 7) from nI_add _ 7]
theorem mA_8 {p : Nat} (hp : p < 10) : den (d, 8, 3, 0, [some (vi (nI p)), some (vi 8)], [], mkH I t1 t2 k sc) = some (some (vi (nI (5 + 9 * p + 8))), mkH I t1 t2 k sc) := by
  rw [m_at, show (9 : Int32) * nI p = nI (9 * p) from (Int32.ofNat_mul 9 p).symm, show (5 : Int32) + nI (9 * p) = nI (5 + 9 * p) from nI_add 5 (9 * p), show nI (5 + 9 * p) + 8 = nI (5 + 9 * p + 8) from nI_add _ 8]
theorem mA {p a : Nat} (hp : p < 10) (ha : a < 9) : den (d, 8, 3, 0, [some (vi (nI p)), some (vi (nI a))], [], mkH I t1 t2 k sc) = some (some (vi (nI (5 + 9 * p + a))), mkH I t1 t2 k sc) := by
  rw [m_at, show (9 : Int32) * nI p = nI (9 * p) from (Int32.ofNat_mul 9 p).symm, show (5 : Int32) + nI (9 * p) = nI (5 + 9 * p) from nI_add 5 (9 * p), nI_add]
theorem m_onesL (x0 : Int32) : ∀ m, m < 1024 → ∀ a, den (d, 8, 9, 4, [some (vi x0), some (vi (nI a)), some (vi (nI m))], [], mkH I t1 t2 k sc) = some (some (vi (nI (a + cntF 10 m))), mkH I t1 t2 k sc) := by
  intro m
  induction m using Nat.strongRecOn with
  | _ m ih =>
    intro hm a
    by_cases h0 : m = 0
    · subst h0
      rw [b8_9_4, cdec, if_pos nI_0, b8_9_20]
      rfl
    · obtain ⟨k1, k2, k3⟩ := ones_key m hm h0
      rw [b8_9_4, cdec, if_neg (nI_ne0 (by omega) (by omega)), b8_9_8, k1, nI_1, ih _ k3 (by omega), k2]
      rw [show a + 1 + cntF 10 (m &&& (m - 1)) = a + (cntF 10 (m &&& (m - 1)) + 1) by omega]
theorem m_ones (f : Nat → Bool) : den (d, 8, 9, 0, [some (vi (fS f 10)), none, none], [], mkH I t1 t2 k sc) = some (some (vi (cb (fS f 10))), mkH I t1 t2 k sc) := by
  obtain ⟨m, h1, h2⟩ := fS_nat f (n := 10) (by omega)
  have h3 : m < 1024 := h1
  rw [h2, cb_n h3, b8_9_0]
  refine (m_onesL d I t1 t2 k sc (nI m) m h3 0).trans ?_
  rw [Nat.zero_add]
theorem x_bits (f : Nat → Bool) : den (d, 10, 0, 0, [some (vi (fS f 10))], [], mkH I t1 t2 k sc) = some (some (vi (cb (fS f 10))), mkH I t1 t2 k sc) := by
  obtain ⟨m, h1, h2⟩ := fS_nat f (n := 10) (by omega)
  have h3 : m < 1024 := h1
  rw [h2, cb_n h3]
  refine (b10_0_0 d (nI m) I t1 t2 k sc).trans ?_
  exact congrArg (fun z => some (some (vi z), mkH I t1 t2 k sc)) (bc_key m h3)
theorem x_allChalk {g : Nat} (hg : g = 8 ∨ g = 24 ∨ g = 35) : den (d, 0, 8, 0, [some (vr 0 g), none, none], [], mkH I t1 t2 k sc) = some (some (vi (sF (fun p => I 0 (g + 2) p) 10)), mkH I t1 t2 k sc) := by
  have st : ∀ p, p < 10 → den (d, 0, 8, 4, [some (vr 0 g), some (vi (sF (fun p => I 0 (g + 2) p) p)), some (vi (nI p))], [], mkH I t1 t2 k sc) = den (d, 0, 8, 4, [some (vr 0 g), some (vi (sF (fun p => I 0 (g + 2) p) (p + 1))), some (vi (nI (p + 1)))], [], mkH I t1 t2 k sc) := by
    intro p hp
    rw [b0_8_4]
    simp (disch := omega) only [bnd, bnd0, ↓cdec, ↓cnot, ↓reduceIte, Bo_0, Bo_1, ↓Bo_ok, i10, i01, eq_self, decide_true, decide_false, Bool.or_true, Bool.true_or, Bool.or_false, Bool.false_or, cond_true, cond_false, not_true_eq_false, not_false_eq_true, and_self, and_true, true_and, and_false, false_and, nI_clamp, ↓inbc, inb_n, nI_pos, nI_1, lt_10, hp, b0_8_10]
    try rfl
  refine (b0_8_0 d g I t1 t2 k sc).trans ?_
  refine (lp (fun p => den (d, 0, 8, 4, [some (vr 0 g), some (vi (sF (fun p => I 0 (g + 2) p) p)), some (vi (nI p))], [], mkH I t1 t2 k sc)) st 0 (by omega)).trans ?_
  rw [b0_8_4]
  simp (disch := omega) only [bnd, bnd0, ↓cdec, ↓cnot, ↓reduceIte, Bo_0, Bo_1, ↓Bo_ok, i10, i01, eq_self, decide_true, decide_false, Bool.or_true, Bool.true_or, Bool.or_false, Bool.false_or, cond_true, cond_false, not_true_eq_false, not_false_eq_true, and_self, and_true, true_and, and_false, false_and, nI_clamp, ↓inbc, inb_n, nI_pos, nI_1, lt_10, Nat.lt_irrefl, b0_8_25]
theorem x_setOf {q : Nat} (hq : q = 13 ∨ q = 15 ∨ q = 17 ∨ q = 40 ∨ q = 42 ∨ q = 44) (x : Int32) : den (d, 0, 7, 0, [some (vr 0 q), some (vi x), none, none], [], mkH I t1 t2 k sc) = some (some (vi (fS (fun p => !decide (I 0 q p < x)) 10)), mkH I t1 t2 k sc) := by
  have st : ∀ p, p < 10 → den (d, 0, 7, 4, [some (vr 0 q), some (vi x), some (vi (fS (fun p => !decide (I 0 q p < x)) p)), some (vi (nI p))], [], mkH I t1 t2 k sc) = den (d, 0, 7, 4, [some (vr 0 q), some (vi x), some (vi (fS (fun p => !decide (I 0 q p < x)) (p + 1))), some (vi (nI (p + 1)))], [], mkH I t1 t2 k sc) := by
    intro p hp
    rw [b0_7_4 d hq]
    by_cases h : I 0 q p < x
    · rw [fS_f (n := p) (by rw [decide_eq_true h]; rfl)]
      simp (disch := omega) only [bnd, bnd0, ↓cdec, ↓cnot, ↓reduceIte, Bo_0, Bo_1, ↓Bo_ok, i10, i01, eq_self, decide_true, decide_false, Bool.or_true, Bool.true_or, Bool.or_false, Bool.false_or, cond_true, cond_false, not_true_eq_false, not_false_eq_true, and_self, and_true, true_and, and_false, false_and, nI_clamp, ↓inbc, inb_n, nI_pos, nI_1, lt_10, hp, h, b0_7_10, b0_7_23]
    · rw [fS_t (n := p) (by rw [decide_eq_false h]; rfl)]
      simp (disch := omega) only [bnd, bnd0, ↓cdec, ↓cnot, ↓reduceIte, Bo_0, Bo_1, ↓Bo_ok, i10, i01, eq_self, decide_true, decide_false, Bool.or_true, Bool.true_or, Bool.or_false, Bool.false_or, cond_true, cond_false, not_true_eq_false, not_false_eq_true, and_self, and_true, true_and, and_false, false_and, nI_clamp, ↓inbc, inb_n, nI_pos, nI_1, lt_10, hp, h, b0_7_10, b0_7_17, b0_7_23]
  refine (b0_7_0 d q x I t1 t2 k sc).trans ?_
  refine (lp (fun p => den (d, 0, 7, 4, [some (vr 0 q), some (vi x), some (vi (fS (fun p => !decide (I 0 q p < x)) p)), some (vi (nI p))], [], mkH I t1 t2 k sc)) st 0 (by omega)).trans ?_
  rw [b0_7_4 d hq]
  simp (disch := omega) only [bnd, bnd0, ↓cdec, ↓cnot, ↓reduceIte, Bo_0, Bo_1, ↓Bo_ok, i10, i01, eq_self, decide_true, decide_false, Bool.or_true, Bool.true_or, Bool.or_false, Bool.false_or, cond_true, cond_false, not_true_eq_false, not_false_eq_true, and_self, and_true, true_and, and_false, false_and, nI_clamp, ↓inbc, inb_n, nI_pos, nI_1, lt_10, Nat.lt_irrefl, b0_7_29]
theorem x_outSet {g : Nat} (hg : g = 8 ∨ g = 35) : den (d + 1, 0, 4, 0, [some (vr 0 g)], [], mkH I t1 t2 k sc) = some (some (vi (fS (fun p => !decide (I 0 (g + 9) p < 1)) 10)), mkH I t1 t2 k sc) := by
  simp (disch := omega) only [bnd, bnd0, ↓cdec, ↓cnot, ↓reduceIte, Bo_0, Bo_1, ↓Bo_ok, i10, i01, eq_self, decide_true, decide_false, Bool.or_true, Bool.true_or, Bool.or_false, Bool.false_or, cond_true, cond_false, not_true_eq_false, not_false_eq_true, and_self, and_true, true_and, and_false, false_and, nI_clamp, ↓inbc, inb_n, nI_pos, nI_1, b0_4_0, b0_4_8, x_setOf]
theorem x_maySet {g : Nat} (hg : g = 8 ∨ g = 35) : den (d + 1, 0, 5, 0, [some (vr 0 g)], [], mkH I t1 t2 k sc) = some (some (vi (fS (fun p => !decide (I 0 (g + 5) p < 1)) 10)), mkH I t1 t2 k sc) := by
  simp (disch := omega) only [bnd, bnd0, ↓cdec, ↓cnot, ↓reduceIte, Bo_0, Bo_1, ↓Bo_ok, i10, i01, eq_self, decide_true, decide_false, Bool.or_true, Bool.true_or, Bool.or_false, Bool.false_or, cond_true, cond_false, not_true_eq_false, not_false_eq_true, and_self, and_true, true_and, and_false, false_and, nI_clamp, ↓inbc, inb_n, nI_pos, nI_1, b0_5_0, b0_5_8, x_setOf]
theorem x_answerSet {g : Nat} (hg : g = 8 ∨ g = 35) : den (d + 1, 0, 6, 0, [some (vr 0 g)], [], mkH I t1 t2 k sc) = some (some (vi (fS (fun p => !decide (I 0 (g + 7) p < 0)) 10)), mkH I t1 t2 k sc) := by
  simp (disch := omega) only [bnd, bnd0, ↓cdec, ↓cnot, ↓reduceIte, Bo_0, Bo_1, ↓Bo_ok, i10, i01, eq_self, decide_true, decide_false, Bool.or_true, Bool.true_or, Bool.or_false, Bool.false_or, cond_true, cond_false, not_true_eq_false, not_false_eq_true, and_self, and_true, true_and, and_false, false_and, nI_clamp, ↓inbc, inb_n, nI_pos, nI_1, b0_6_0, b0_6_8, x_setOf]
theorem m_chalks : den (d + 1, 8, 39, 0, [some (vr 0 56), none, none], [], mkH I t1 t2 k sc) = some (some (vi (sF (fun p => I 0 57 (5 + 9 * p + 1)) 10)), mkH I t1 t2 k sc) := by
  have st : ∀ p, p < 10 → den (d + 1, 8, 39, 4, [some (vr 0 56), some (vi (sF (fun p => I 0 57 (5 + 9 * p + 1)) p)), some (vi (nI p))], [], mkH I t1 t2 k sc) = den (d + 1, 8, 39, 4, [some (vr 0 56), some (vi (sF (fun p => I 0 57 (5 + 9 * p + 1)) (p + 1))), some (vi (nI (p + 1)))], [], mkH I t1 t2 k sc) := by
    intro p hp
    rw [b8_39_4]
    simp (disch := omega) only [bnd, bnd0, ↓cdec, ↓cnot, ↓reduceIte, Bo_0, Bo_1, ↓Bo_ok, i10, i01, eq_self, decide_true, decide_false, Bool.or_true, Bool.true_or, Bool.or_false, Bool.false_or, cond_true, cond_false, not_true_eq_false, not_false_eq_true, and_self, and_true, true_and, and_false, false_and, nI_clamp, ↓inbc, inb_n, nI_pos, nI_1, lt_10, hp, b8_39_10, b8_39_20, mA_1]
    try rfl
  refine (b8_39_0 d I t1 t2 k sc).trans ?_
  refine (lp (fun p => den (d + 1, 8, 39, 4, [some (vr 0 56), some (vi (sF (fun p => I 0 57 (5 + 9 * p + 1)) p)), some (vi (nI p))], [], mkH I t1 t2 k sc)) st 0 (by omega)).trans ?_
  rw [b8_39_4]
  simp (disch := omega) only [bnd, bnd0, ↓cdec, ↓cnot, ↓reduceIte, Bo_0, Bo_1, ↓Bo_ok, i10, i01, eq_self, decide_true, decide_false, Bool.or_true, Bool.true_or, Bool.or_false, Bool.false_or, cond_true, cond_false, not_true_eq_false, not_false_eq_true, and_self, and_true, true_and, and_false, false_and, nI_clamp, ↓inbc, inb_n, nI_pos, nI_1, lt_10, Nat.lt_irrefl, b8_39_29]
theorem m_outs : den (d + 1, 8, 48, 0, [some (vr 0 56), none, none], [], mkH I t1 t2 k sc) = some (some (vi (fS (fun p => decide (I 0 57 (5 + 9 * p + 8) = 1)) 10)), mkH I t1 t2 k sc) := by
  have st : ∀ p, p < 10 → den (d + 1, 8, 48, 4, [some (vr 0 56), some (vi (fS (fun p => decide (I 0 57 (5 + 9 * p + 8) = 1)) p)), some (vi (nI p))], [], mkH I t1 t2 k sc) = den (d + 1, 8, 48, 4, [some (vr 0 56), some (vi (fS (fun p => decide (I 0 57 (5 + 9 * p + 8) = 1)) (p + 1))), some (vi (nI (p + 1)))], [], mkH I t1 t2 k sc) := by
    intro p hp
    rw [b8_48_4]
    by_cases h : I 0 57 (5 + 9 * p + 8) = 1
    · rw [fS_t (n := p) (decide_eq_true h)]
      simp (disch := omega) only [bnd, bnd0, ↓cdec, ↓cnot, ↓reduceIte, Bo_0, Bo_1, ↓Bo_ok, i10, i01, eq_self, decide_true, decide_false, Bool.or_true, Bool.true_or, Bool.or_false, Bool.false_or, cond_true, cond_false, not_true_eq_false, not_false_eq_true, and_self, and_true, true_and, and_false, false_and, nI_clamp, ↓inbc, inb_n, nI_pos, nI_1, lt_10, hp, h, b8_48_10, b8_48_21, b8_48_26, b8_48_33, mA_8]
    · rw [fS_f (n := p) (decide_eq_false h)]
      simp (disch := omega) only [bnd, bnd0, ↓cdec, ↓cnot, ↓reduceIte, Bo_0, Bo_1, ↓Bo_ok, i10, i01, eq_self, decide_true, decide_false, Bool.or_true, Bool.true_or, Bool.or_false, Bool.false_or, cond_true, cond_false, not_true_eq_false, not_false_eq_true, and_self, and_true, true_and, and_false, false_and, nI_clamp, ↓inbc, inb_n, nI_pos, nI_1, lt_10, hp, h, b8_48_10, b8_48_21, b8_48_32, b8_48_33, mA_8, or0]
  refine (b8_48_0 d I t1 t2 k sc).trans ?_
  refine (lp (fun p => den (d + 1, 8, 48, 4, [some (vr 0 56), some (vi (fS (fun p => decide (I 0 57 (5 + 9 * p + 8) = 1)) p)), some (vi (nI p))], [], mkH I t1 t2 k sc)) st 0 (by omega)).trans ?_
  rw [b8_48_4]
  simp (disch := omega) only [bnd, bnd0, ↓cdec, ↓cnot, ↓reduceIte, Bo_0, Bo_1, ↓Bo_ok, i10, i01, eq_self, decide_true, decide_false, Bool.or_true, Bool.true_or, Bool.or_false, Bool.false_or, cond_true, cond_false, not_true_eq_false, not_false_eq_true, and_self, and_true, true_and, and_false, false_and, nI_clamp, ↓inbc, inb_n, nI_pos, nI_1, lt_10, Nat.lt_irrefl, b8_48_41]
end
/-- fill -/
theorem fil_step (I : IFn) (q p : Nat) (v : Int32) : uI (uA I 0 q (fil v p (I 0 q))) 0 q p v = uA I 0 q (fil v (p + 1) (I 0 q)) := by
  funext g j i
  by_cases h : g = 0 ∧ j = q
  · obtain ⟨rfl, rfl⟩ := h
    by_cases hi : i = p
    · subst hi
      rw [uI_at ⟨rfl, rfl, rfl⟩, uA_at ⟨rfl, rfl⟩, fil, if_pos (by omega)]
    · rw [uI_ne (by omega), uA_at ⟨rfl, rfl⟩, uA_at ⟨rfl, rfl⟩, fil, fil]
      by_cases h2 : i < p
      · rw [if_pos h2, if_pos (by omega)]
      · rw [if_neg h2, if_neg (by omega)]
  · rw [uI_ne (by omega), uA_ne h, uA_ne h]
theorem fil_zero (I : IFn) (q : Nat) (v : Int32) : uA I 0 q (fil v 0 (I 0 q)) = I := by
  funext g j i
  by_cases h : g = 0 ∧ j = q
  · obtain ⟨rfl, rfl⟩ := h
    rw [uA_at ⟨rfl, rfl⟩, fil, if_neg (by omega)]
  · rw [uA_ne h]
section
variable (d : Nat) (I : IFn) (t1 t2 : TFn) (k : Nat) (sc : Nat × (Nat → Int32))
theorem x_fill {q n : Nat} (hq : q = 9 ∨ q = 10 ∨ q = 11 ∨ q = 13 ∨ q = 14 ∨ q = 15 ∨ q = 16 ∨ q = 17 ∨ q = 18 ∨ q = 25 ∨ q = 26 ∨ q = 27 ∨ q = 29 ∨ q = 30 ∨ q = 31 ∨ q = 32 ∨ q = 33 ∨ q = 34 ∨ q = 36 ∨ q = 37 ∨ q = 38 ∨ q = 40 ∨ q = 41 ∨ q = 42 ∨ q = 43 ∨ q = 44 ∨ q = 49 ∨ q = 51 ∨ q = 53 ∨ q = 55) (hn : (shp 0 q).2 = n) (h40 : n ≤ 40) (v : Int32) : den (d, 12, 0, 0, [some (vr 0 q), some (vi v), none, none], [], mkH I t1 t2 k sc) = some (none, mkH (uA I 0 q (fil v n (I 0 q))) t1 t2 k sc) := by
  have st : ∀ p, p < n → den (d, 12, 0, 5, [some (vr 0 q), some (vi v), some (vi (nI p)), some (vi (nI n))], [], mkH (uA I 0 q (fil v p (I 0 q))) t1 t2 k sc) = den (d, 12, 0, 5, [some (vr 0 q), some (vi v), some (vi (nI (p + 1))), some (vi (nI n))], [], mkH (uA I 0 q (fil v (p + 1) (I 0 q))) t1 t2 k sc) := by
    intro p hp
    rw [b12_0_5, cdec, if_pos (nI_lt hp (by omega)), b12_0_10 d hq, hn, inb_n hp (by omega), cond_true, nI_clamp (by omega), fil_step, nI_1]
  refine (b12_0_0 d hq v I t1 t2 k sc).trans ?_
  rw [hn]
  have e0 := lp (fun p => den (d, 12, 0, 5, [some (vr 0 q), some (vi v), some (vi (nI p)), some (vi (nI n))], [], mkH (uA I 0 q (fil v p (I 0 q))) t1 t2 k sc)) st 0 (by omega)
  rw [fil_zero] at e0
  refine e0.trans ?_
  rw [b12_0_5, cdec, if_neg (nI_nlt (Nat.le_refl _) (by omega)), b12_0_20]
end
