/-! sets as bits -/
def fS (f : Nat → Bool) : Nat → Int32
  | 0 => 0
  | n + 1 => if f n = true then fS f n ||| ((1 : Int32) <<< (nI n &&& 31)) else fS f n
theorem fS_congr {f g : Nat → Bool} : ∀ {n : Nat}, (∀ p, p < n → f p = g p) → fS f n = fS g n
  | 0, _ => rfl
  | n + 1, h => by
    rw [fS, fS, h n (Nat.lt_succ_self n), fS_congr (n := n) (fun p hp => h p (Nat.lt_succ_of_lt hp))]
theorem one_shl : ∀ n, n < 32 → ((1 : Int32) <<< (nI n &&& 31)).toBitVec = (1#32) <<< n := by decide +kernel
theorem bit_one_shl {n i : Nat} (hn : n < 32) (hi : i < 32) : ((1#32) <<< n).getLsbD i = decide (i = n) := by
  rw [BitVec.getLsbD_shiftLeft, BitVec.getLsbD_one]
  by_cases h1 : i = n
  · subst h1; simp [hi]
  · by_cases h2 : i < n
    · simp [h2, h1]
    · have : i - n ≠ 0 := by omega
      simp [hi, h1, h2, this]
theorem fS_bit (f : Nat → Bool) : ∀ {n : Nat}, n ≤ 32 → ∀ i, i < 32 → (fS f n).toBitVec.getLsbD i = (decide (i < n) && f i)
  | 0, _, i, _ => by simp [fS]
  | n + 1, hn, i, hi => by
    have ih := fS_bit f (n := n) (by omega) i hi
    rw [fS]
    by_cases hf : f n = true
    · rw [if_pos hf, Int32.toBitVec_or, BitVec.getLsbD_or, ih, one_shl n (by omega), bit_one_shl (by omega) hi]
      by_cases h1 : i = n
      · subst h1; simp [hf]
      · have h2 : (i < n + 1) ↔ (i < n) := by omega
        simp [h1, h2]
    · rw [if_neg hf, ih]
      by_cases h1 : i = n
      · subst h1; simp [hf]
      · have h2 : (i < n + 1) ↔ (i < n) := by omega
        simp [h2]
theorem i32_ext {a b : Int32} (h : ∀ i, i < 32 → a.toBitVec.getLsbD i = b.toBitVec.getLsbD i) : a = b := Int32.toBitVec_inj.mp (BitVec.eq_of_getLsbD_eq h)
theorem fS_and_not (f g : Nat → Bool) {n : Nat} (hn : n ≤ 32) : fS f n &&& (fS g n ^^^ -1) = fS (fun p => f p && !g p) n := by
  apply i32_ext
  intro i hi
  have hm : (-1 : Int32).toBitVec.getLsbD i = true := by
    have : ∀ i, i < 32 → (-1 : Int32).toBitVec.getLsbD i = true := by decide
    exact this i hi
  rw [Int32.toBitVec_and, Int32.toBitVec_xor, BitVec.getLsbD_and, BitVec.getLsbD_xor, fS_bit f hn i hi, fS_bit g hn i hi, fS_bit _ hn i hi, hm]
  cases decide (i < n) <;> cases f i <;> cases g i <;> rfl
theorem fS_xor (f g : Nat → Bool) {n : Nat} (hn : n ≤ 32) : fS f n ^^^ fS g n = fS (fun p => f p != g p) n := by
  apply i32_ext
  intro i hi
  rw [Int32.toBitVec_xor, BitVec.getLsbD_xor, fS_bit f hn i hi, fS_bit g hn i hi, fS_bit _ hn i hi]
  cases decide (i < n) <;> cases f i <;> cases g i <;> rfl
theorem fS_or (f g : Nat → Bool) {n : Nat} (hn : n ≤ 32) : fS f n ||| fS g n = fS (fun p => f p || g p) n := by
  apply i32_ext
  intro i hi
  rw [Int32.toBitVec_or, BitVec.getLsbD_or, fS_bit f hn i hi, fS_bit g hn i hi, fS_bit _ hn i hi]
  cases decide (i < n) <;> cases f i <;> cases g i <;> rfl
theorem fS_false {n : Nat} (hn : n ≤ 32) : fS (fun _ => false) n = 0 := by
  apply i32_ext
  intro i hi
  rw [fS_bit _ hn i hi]
  simp
theorem fS_zero {f : Nat → Bool} {n : Nat} (hn : n ≤ 32) : fS f n = 0 ↔ ∀ p, p < n → f p = false := by
  constructor
  · intro h p hp
    have := fS_bit f hn p (by omega)
    rw [h] at this
    have hp' : decide (p < n) = true := decide_eq_true hp
    rw [hp', Bool.true_and] at this
    rw [← this]
    simp
  · intro h
    rw [fS_congr (g := fun _ => false) h, fS_false hn]
theorem fS_inj {f g : Nat → Bool} {n : Nat} (hn : n ≤ 32) (h : fS f n = fS g n) : ∀ p, p < n → f p = g p := by
  intro p hp
  have h1 := fS_bit f hn p (by omega)
  have h2 := fS_bit g hn p (by omega)
  rw [h, h2] at h1
  simpa [hp] using h1.symm
/-- a set of n bits is a number below 2 ^ n -/
theorem fS_nat (f : Nat → Bool) : ∀ {n : Nat}, n ≤ 10 → ∃ m : Nat, m < 2 ^ n ∧ fS f n = nI m
  | 0, _ => ⟨0, by decide, by rw [fS, nI_0]⟩
  | n + 1, hn => by
    obtain ⟨m, h1, h2⟩ := fS_nat f (n := n) (by omega)
    have hp : 2 ^ n ≤ 512 := by
      have : ∀ n, n ≤ 9 → 2 ^ n ≤ 512 := by decide
      exact this n (by omega)
    by_cases hf : f n = true
    · refine ⟨m + 2 ^ n, by rw [Nat.pow_succ]; omega, ?_⟩
      rw [fS, if_pos hf, h2]
      have key : ∀ n, n < 10 → ∀ m, m < 2 ^ n → nI m ||| ((1 : Int32) <<< (nI n &&& 31)) = nI (m + 2 ^ n) := by decide +kernel
      exact key n (by omega) m h1
    · exact ⟨m, by rw [Nat.pow_succ]; omega, by rw [fS, if_neg hf, h2]⟩
