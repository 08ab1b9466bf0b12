/-! a minute, in numbers alone: men γ (part, prisoner), HARD H, who solves sol, RICH R -/
abbrev Men : Type := Nat → Nat → Int32
def okMn (γ : Men) : Prop := ∀ p, p < 10 → manOK (fun a => γ a p)
def opB (γ : Men) (p : Nat) : Bool := decide (γ 8 p = 0) && decide (γ 6 p < 0)
def seB (γ : Men) (p : Nat) : Bool := decide (γ 8 p = 0) && !decide (γ 6 p < 0)
theorem op_t {γ : Men} {p : Nat} : opB γ p = true ↔ (γ 8 p = 0 ∧ γ 6 p < 0) := by
  rw [opB, Bool.and_eq_true, decide_eq_true_iff, decide_eq_true_iff]
theorem se_t {γ : Men} {p : Nat} : seB γ p = true ↔ (γ 8 p = 0 ∧ ¬ γ 6 p < 0) := by
  rw [seB, Bool.and_eq_true, decide_eq_true_iff, Bool.not_eq_true', decide_eq_false_iff_not]
def nxN (v : Int32) : Int32 := if v < 99 then v + 1 else 0
/-- one try -/
def t1F (H : Int32) (sol : Nat → Bool) (p : Nat) (γ : Men) : Men := if sol (γ 5 p).toNatClampNeg = true then g2 (g2 γ 7 p (γ 7 p - H)) 6 p (γ 5 p) else g2 (g2 γ 7 p (γ 7 p - H)) 5 p (nxN (γ 5 p))
def trF (H : Int32) (sol : Nat → Bool) (p : Nat) : Nat → Men → Men
  | 0, γ => γ
  | f + 1, γ => if ¬ γ 7 p < H ∧ γ 6 p < 0 then trF H sol p f (t1F H sol p γ) else γ
theorem tr_go {H : Int32} {sol : Nat → Bool} {p f : Nat} {γ : Men} (h : ¬ γ 7 p < H ∧ γ 6 p < 0) : trF H sol p (f + 1) γ = trF H sol p f (t1F H sol p γ) := if_pos h
theorem tr_no {H : Int32} {sol : Nat → Bool} {p f : Nat} {γ : Men} (h : ¬ (¬ γ 7 p < H ∧ γ 6 p < 0)) : trF H sol p (f + 1) γ = γ := if_neg h
def w0F (p : Nat) (γ : Men) : Men := g2 (g2 γ 1 p (γ 1 p - 1)) 7 p (γ 7 p + γ 0 p)
def woF (H : Int32) (sol : Nat → Bool) (γ : Men) (p : Nat) : Men := if opB γ p = true then (if γ 1 p = 0 then γ else trF H sol p 1000 (w0F p γ)) else γ
def chN (γ : Men) (n : Nat) : Option Nat → Option Nat
  | none => if seB γ n = true then some n else none
  | some b => if seB γ n = true ∧ γ 2 n < γ 2 b then some n else some b
def chF (γ : Men) : Nat → Option Nat
  | 0 => none
  | n + 1 => chN γ n (chF γ n)
def mnF (v : Int32) : Int32 := if v < 999 then v else 999
def b0F (p s : Nat) (γ : Men) : Men := g2 (g2 (g2 γ 1 p (γ 1 p - γ 2 s)) 1 s (mnF ((g2 γ 1 p (γ 1 p - γ 2 s)) 1 s + γ 2 s))) 6 p (γ 6 s)
def buO (γ : Men) (p : Nat) : Option Nat → Men
  | none => γ
  | some s => if γ 1 p < γ 2 s then γ else b0F p s γ
def buF (γ : Men) (p : Nat) : Men := if opB γ p = true then buO γ p (chF γ 10) else γ
/-- the first from i on in a cell who speaks -/
def fiF (γ : Men) (spk : Nat → Bool) (w : Int32) : Nat → Nat → Option Nat
  | 0, _ => none
  | m + 1, i => if γ 3 i = w ∧ spk i = true then some i else fiF γ spk w m (i + 1)
def orO : Option Nat → Option Nat → Option Nat
  | some s, _ => some s
  | none, o => o
def heF (γ : Men) (spk : Nat → Bool) (p : Nat) : Option Nat := orO (fiF γ spk (γ 3 p - 1) 10 0) (fiF γ spk (γ 3 p + 1) 10 0)
def liO (γ : Men) (p : Nat) : Option Nat → Men
  | none => γ
  | some s => g2 γ 6 p (γ 6 s)
def liF (spk : Nat → Bool) (γ : Men) (p : Nat) : Men := if opB γ p = true then liO γ p (heF γ spk p) else γ
def doF (R : Int32) (γ : Men) (p : Nat) : Men := if seB γ p = true ∧ ¬ R < γ 1 p then g2 γ 8 p 1 else γ
def fpF (F : Men → Nat → Men) (γ : Men) : Nat → Men
  | 0 => γ
  | n + 1 => F (fpF F γ n) n
def s1F (H : Int32) (sol : Nat → Bool) (γ : Men) : Men := fpF (woF H sol) γ 10
def s2F (H : Int32) (sol : Nat → Bool) (γ : Men) : Men := fpF buF (s1F H sol γ) 10
def s3F (H : Int32) (sol : Nat → Bool) (γ : Men) : Men := fpF (liF (seB γ)) (s2F H sol γ) 10
def miF (H : Int32) (sol : Nat → Bool) (R : Int32) (γ : Men) : Men := fpF (doF R) (s3F H sol γ) 10
def itF (F : Men → Men) : Nat → Men → Men
  | 0, γ => γ
  | n + 1, γ => itF F n (F γ)
theorem it_fix {F : Men → Men} {γ : Men} (h : F γ = γ) : ∀ n, itF F n γ = γ
  | 0 => rfl
  | n + 1 => by rw [itF, h, it_fix h n]
theorem it_succ (F : Men → Men) : ∀ n γ, itF F (n + 1) γ = F (itF F n γ)
  | 0, γ => rfl
  | n + 1, γ => by rw [itF, it_succ F n, itF]
/-! numbers stay in their bounds -/
def manX (f : Nat → Int32) : Prop := rng 1 9 (f 0) ∧ rng 0 999 (f 1) ∧ rng 0 99 (f 2) ∧ rng 0 19 (f 3) ∧ rng 0 1 (f 4) ∧ rng 0 99 (f 5) ∧ opt 100 (f 6) ∧ rng 0 69 (f 7) ∧ rng 0 1 (f 8)
theorem nx_ok {v : Int32} (h : rng 0 99 v) : rng 0 99 (nxN v) ∧ jrem (v + 1) 100 = nxN v := by
  obtain ⟨n, -, h1, rfl⟩ := h
  by_cases h2 : n < 99
  · have e : nI n < 99 := nI_lt (b := 99) h2 (by decide)
    rw [nxN, if_pos e, nI_1]
    refine ⟨⟨n + 1, by omega, by omega, rfl⟩, ?_⟩
    have := pk_rem (a := n + 1) (d := 100) (by omega) (by omega) (by omega)
    rw [Nat.mod_eq_of_lt (by omega)] at this
    exact this
  · have hn : n = 99 := by omega
    subst hn
    exact ⟨⟨0, by omega, by omega, by decide⟩, by decide⟩
theorem opt_neg {n : Nat} {x : Int32} (h : opt n x) (hn : n ≤ 4000) : x < 0 ↔ x = -1 := by
  rcases h with rfl | ⟨q, hq, rfl⟩
  · exact ⟨fun _ => rfl, fun _ => by decide⟩
  · refine ⟨fun z => absurd z (nI_pos (by omega)), fun z => ?_⟩
    rw [z]; decide
theorem g2_row {γ : Men} {a p : Nat} {v : Int32} : (fun a' => g2 γ a p v a' p) = fun a' => if a' = a then v else γ a' p := by
  funext a'
  by_cases h2 : a' = a
  · rw [g2_at ⟨h2, rfl⟩, if_pos h2]
  · rw [g2_ne (fun z => h2 z.1), if_neg h2]
theorem g2_row2 {γ : Men} {a p q : Nat} {v : Int32} (h : q ≠ p) : (fun a' => g2 γ a p v a' q) = fun a' => γ a' q := by
  funext a'
  rw [g2_ne (fun z => h z.2)]
theorem tr_ok {h : Nat} (h2 : 2 ≤ h) (h58 : h ≤ 58) (sol : Nat → Bool) {p : Nat} : ∀ f (γ : Men), (∀ q, q < 10 → q ≠ p → manOK (fun a => γ a q)) → manX (fun a => γ a p) → (∃ w : Nat, γ 7 p = nI w ∧ w < f ∧ w ≤ 69) → okMn (trF (nI h) sol p f γ)
  | 0, γ, _, _, hw => by
    obtain ⟨w, _, hw, _⟩ := hw
    omega
  | f + 1, γ, ho, hX, hw => by
    obtain ⟨w, ew, hw, w69⟩ := hw
    obtain ⟨x0, x1, x2, x3, x4, x5, x6, x7, x8⟩ := hX
    by_cases hc : ¬ γ 7 p < nI h ∧ γ 6 p < 0
    · rw [tr_go hc]
      have hwh : h ≤ w := by
        have := hc.1
        rw [ew, nI_ltI (by omega) (by omega)] at this
        omega
      have e7 : γ 7 p - nI h = nI (w - h) := by rw [ew, pk_sub hwh]
      by_cases hs : sol (γ 5 p).toNatClampNeg = true
      · rw [t1F, if_pos hs]
        refine tr_ok h2 h58 sol f _ (fun q hq hqp => ?_) ?_ ⟨w - h, ?_, by omega, by omega⟩
        · rw [g2_row2 hqp, g2_row2 hqp]; exact ho q hq hqp
        · rw [g2_row]
          have r2 := g2_row (γ := γ) (a := 7) (p := p) (v := γ 7 p - nI h)
          refine ⟨?_, ?_, ?_, ?_, ?_, ?_, ?_, ?_, ?_⟩
          · show rng 1 9 (g2 γ 7 p (γ 7 p - nI h) 0 p); rw [g2_ne (by omega)]; exact x0
          · show rng 0 999 (g2 γ 7 p (γ 7 p - nI h) 1 p); rw [g2_ne (by omega)]; exact x1
          · show rng 0 99 (g2 γ 7 p (γ 7 p - nI h) 2 p); rw [g2_ne (by omega)]; exact x2
          · show rng 0 19 (g2 γ 7 p (γ 7 p - nI h) 3 p); rw [g2_ne (by omega)]; exact x3
          · show rng 0 1 (g2 γ 7 p (γ 7 p - nI h) 4 p); rw [g2_ne (by omega)]; exact x4
          · show rng 0 99 (g2 γ 7 p (γ 7 p - nI h) 5 p); rw [g2_ne (by omega)]; exact x5
          · show opt 100 (γ 5 p)
            obtain ⟨z, _, z2, z3⟩ := x5
            exact Or.inr ⟨z, by omega, z3⟩
          · show rng 0 69 (g2 γ 7 p (γ 7 p - nI h) 7 p); rw [g2_at ⟨rfl, rfl⟩, e7]; exact ⟨w - h, by omega, by omega, rfl⟩
          · show rng 0 1 (g2 γ 7 p (γ 7 p - nI h) 8 p); rw [g2_ne (by omega)]; exact x8
        · rw [g2_ne (by omega), g2_at ⟨rfl, rfl⟩, e7]
      · rw [t1F, if_neg hs]
        refine tr_ok h2 h58 sol f _ (fun q hq hqp => ?_) ?_ ⟨w - h, ?_, by omega, by omega⟩
        · rw [g2_row2 hqp, g2_row2 hqp]; exact ho q hq hqp
        · rw [g2_row]
          refine ⟨?_, ?_, ?_, ?_, ?_, ?_, ?_, ?_, ?_⟩
          · show rng 1 9 (g2 γ 7 p (γ 7 p - nI h) 0 p); rw [g2_ne (by omega)]; exact x0
          · show rng 0 999 (g2 γ 7 p (γ 7 p - nI h) 1 p); rw [g2_ne (by omega)]; exact x1
          · show rng 0 99 (g2 γ 7 p (γ 7 p - nI h) 2 p); rw [g2_ne (by omega)]; exact x2
          · show rng 0 19 (g2 γ 7 p (γ 7 p - nI h) 3 p); rw [g2_ne (by omega)]; exact x3
          · show rng 0 1 (g2 γ 7 p (γ 7 p - nI h) 4 p); rw [g2_ne (by omega)]; exact x4
          · show rng 0 99 (nxN (γ 5 p)); exact (nx_ok x5).1
          · show opt 100 (g2 γ 7 p (γ 7 p - nI h) 6 p); rw [g2_ne (by omega)]; exact x6
          · show rng 0 69 (g2 γ 7 p (γ 7 p - nI h) 7 p); rw [g2_at ⟨rfl, rfl⟩, e7]; exact ⟨w - h, by omega, by omega, rfl⟩
          · show rng 0 1 (g2 γ 7 p (γ 7 p - nI h) 8 p); rw [g2_ne (by omega)]; exact x8
        · rw [g2_ne (by omega), g2_at ⟨rfl, rfl⟩, e7]
    · rw [tr_no hc]
      intro q hq
      by_cases hqp : q = p
      · subst hqp
        obtain ⟨z, _, z2, z3⟩ := x7
        have z3' : γ 7 q = nI z := z3
        refine ⟨x0, x1, x2, x3, x4, x5, x6, ⟨⟨z, by omega, by omega, z3⟩, fun e6 => ?_⟩, x8⟩
        have e6' : γ 6 q = -1 := e6
        have hl : γ 7 q < nI h := by
          by_cases hl : γ 7 q < nI h
          · exact hl
          · exact absurd ⟨hl, by rw [e6']; decide⟩ hc
        rw [z3', nI_ltI (by omega) (by omega)] at hl
        exact ⟨z, by omega, by omega, z3⟩
      · exact ho q hq hqp
theorem w0_X {γ : Men} (hok : okMn γ) {p : Nat} (hp : p < 10) (ho : opB γ p = true) (hz : ¬ γ 1 p = 0) : (∀ q, q < 10 → q ≠ p → manOK (fun a => w0F p γ a q)) ∧ manX (fun a => w0F p γ a p) ∧ ∃ w : Nat, w0F p γ 7 p = nI w ∧ w ≤ 69 := by
  obtain ⟨x0, x1, x2, x3, x4, x5, x6, ⟨-, x7⟩, x8⟩ := hok p hp
  have h6 : γ 6 p = -1 := (opt_neg x6 (by omega)).mp (op_t.mp ho).2
  obtain ⟨w, -, w60, ew⟩ := x7 h6
  obtain ⟨s, s1, s9, es⟩ := x0
  obtain ⟨c, -, c9, ec⟩ := x1
  have ew' : γ 7 p = nI w := ew
  have es' : γ 0 p = nI s := es
  have ec' : γ 1 p = nI c := ec
  have c1 : 1 ≤ c := by
    rcases Nat.eq_zero_or_pos c with z | z
    · rw [ec', z] at hz; exact absurd nI_0 hz
    · exact z
  have e1 : γ 1 p - 1 = nI (c - 1) := by rw [ec', pred_s c1]
  have e7 : γ 7 p + γ 0 p = nI (w + s) := by rw [ew', es', nI_add]
  refine ⟨fun q hq hqp => ?_, ?_, w + s, ?_, by omega⟩
  · unfold w0F; rw [g2_row2 hqp, g2_row2 hqp]; exact hok q hq
  · unfold w0F
    rw [g2_row]
    refine ⟨?_, ?_, ?_, ?_, ?_, ?_, ?_, ?_, ?_⟩
    · show rng 1 9 (g2 γ 1 p (γ 1 p - 1) 0 p); rw [g2_ne (by omega)]; exact ⟨s, s1, s9, es⟩
    · show rng 0 999 (g2 γ 1 p (γ 1 p - 1) 1 p); rw [g2_at ⟨rfl, rfl⟩, e1]; exact ⟨c - 1, by omega, by omega, rfl⟩
    · show rng 0 99 (g2 γ 1 p (γ 1 p - 1) 2 p); rw [g2_ne (by omega)]; exact x2
    · show rng 0 19 (g2 γ 1 p (γ 1 p - 1) 3 p); rw [g2_ne (by omega)]; exact x3
    · show rng 0 1 (g2 γ 1 p (γ 1 p - 1) 4 p); rw [g2_ne (by omega)]; exact x4
    · show rng 0 99 (g2 γ 1 p (γ 1 p - 1) 5 p); rw [g2_ne (by omega)]; exact x5
    · show opt 100 (g2 γ 1 p (γ 1 p - 1) 6 p); rw [g2_ne (by omega)]; exact x6
    · show rng 0 69 (γ 7 p + γ 0 p); rw [e7]; exact ⟨w + s, by omega, by omega, rfl⟩
    · show rng 0 1 (g2 γ 1 p (γ 1 p - 1) 8 p); rw [g2_ne (by omega)]; exact x8
  · rw [w0F, g2_at ⟨rfl, rfl⟩, e7]
theorem wo_ok {h : Nat} (h2 : 2 ≤ h) (h58 : h ≤ 58) (sol : Nat → Bool) {γ : Men} (hok : okMn γ) {p : Nat} (hp : p < 10) : okMn (woF (nI h) sol γ p) := by
  rw [woF]
  by_cases ho : opB γ p = true
  · rw [if_pos ho]
    by_cases hz : γ 1 p = 0
    · rw [if_pos hz]; exact hok
    · rw [if_neg hz]
      obtain ⟨g1, g2', w, g3, g4⟩ := w0_X hok hp ho hz
      exact tr_ok h2 h58 sol 1000 _ g1 g2' ⟨w, g3, by omega, g4⟩
  · rw [if_neg ho]; exact hok
theorem ch_se {γ : Men} : ∀ n s, chF γ n = some s → s < n ∧ seB γ s = true
  | 0, s, h => by cases h
  | n + 1, s, h => by
    rw [chF] at h
    cases hb : chF γ n with
    | none =>
      rw [hb, chN] at h
      by_cases hs : seB γ n = true
      · rw [if_pos hs] at h; cases h; exact ⟨by omega, hs⟩
      · rw [if_neg hs] at h; cases h
    | some b =>
      rw [hb, chN] at h
      by_cases hs : seB γ n = true ∧ γ 2 n < γ 2 b
      · rw [if_pos hs] at h; cases h; exact ⟨by omega, hs.1⟩
      · rw [if_neg hs] at h
        have e : b = s := Option.some.inj h
        have := ch_se n b hb
        rw [e] at this
        exact ⟨by omega, this.2⟩
theorem ch_none {γ : Men} : ∀ n, (∀ p, p < n → seB γ p = false) → chF γ n = none
  | 0, _ => rfl
  | n + 1, h => by
    rw [chF, ch_none n (fun p hp => h p (by omega)), chN, h n (by omega), if_neg (by decide)]
theorem mo_6 {f : Nat → Int32} {v : Int32} (h : manOK f) (hv : ∃ n : Nat, n < 100 ∧ v = nI n) : manOK (fun a => if a = 6 then v else f a) := by
  obtain ⟨x0, x1, x2, x3, x4, x5, x6, ⟨x7, -⟩, x8⟩ := h
  obtain ⟨n, hn, e⟩ := hv
  refine ⟨x0, x1, x2, x3, x4, x5, Or.inr ⟨n, hn, e⟩, ⟨x7, fun z => ?_⟩, x8⟩
  have z' : v = -1 := z
  rw [e] at z'
  have := congrArg Int32.toInt z'
  rw [nI_toInt (by omega), k32_m1] at this
  omega
theorem se_ans {γ : Men} (hok : okMn γ) {s : Nat} (hs : s < 10) (h : seB γ s = true) : ∃ n : Nat, n < 100 ∧ γ 6 s = nI n := by
  obtain ⟨x0, x1, x2, x3, x4, x5, x6, x7, x8⟩ := hok s hs
  rcases x6 with z | z
  · have := (se_t.mp h).2
    exact absurd (by rw [show γ 6 s = -1 from z]; decide) this
  · exact z
theorem bu_ok {γ : Men} (hok : okMn γ) {p : Nat} (hp : p < 10) : okMn (buF γ p) := by
  rw [buF]
  by_cases ho : opB γ p = true
  · rw [if_pos ho]
    cases hs : chF γ 10 with
    | none => exact hok
    | some s =>
      obtain ⟨hs10, hse⟩ := ch_se 10 s hs
      rw [buO]
      by_cases hl : γ 1 p < γ 2 s
      · rw [if_pos hl]; exact hok
      · rw [if_neg hl]
        have hps : s ≠ p := by
          intro z; subst z
          exact (se_t.mp hse).2 (op_t.mp ho).2
        obtain ⟨c, -, c9, ec⟩ := (hok p hp).2.1
        obtain ⟨r, -, r9, er⟩ := (hok s hs10).2.2.1
        obtain ⟨e, -, e9, ee⟩ := (hok s hs10).2.1
        have ec' : γ 1 p = nI c := ec
        have er' : γ 2 s = nI r := er
        have ee' : γ 1 s = nI e := ee
        have hrc : r ≤ c := by
          rw [ec', er', nI_ltI (by omega) (by omega)] at hl; omega
        have o1 : okMn (g2 γ 1 p (γ 1 p - γ 2 s)) := g2_ok hok (mo_1 (hok p hp) (by rw [ec', er', pk_sub hrc]; exact ⟨c - r, by omega, by omega, rfl⟩))
        have hm : rng 0 999 (mnF ((g2 γ 1 p (γ 1 p - γ 2 s)) 1 s + γ 2 s)) := by
          rw [g2_ne (fun z => hps z.2), ee', er', nI_add, mnF]
          by_cases h9 : e + r < 999
          · have z9 : nI (e + r) < 999 := nI_lt (b := 999) h9 (by decide)
            rw [if_pos z9]; exact ⟨e + r, by omega, by omega, rfl⟩
          · have z9 : ¬ nI (e + r) < 999 := nI_nlt (a := e + r) (b := 999) (by omega) (by omega)
            rw [if_neg z9]; exact ⟨999, by omega, by omega, rfl⟩
        have o2 : okMn (g2 (g2 γ 1 p (γ 1 p - γ 2 s)) 1 s (mnF ((g2 γ 1 p (γ 1 p - γ 2 s)) 1 s + γ 2 s))) := g2_ok o1 (mo_1 (o1 s hs10) hm)
        exact g2_ok o2 (mo_6 (o2 p hp) (se_ans hok hs10 hse))
  · rw [if_neg ho]; exact hok
theorem do_ok {R : Int32} {γ : Men} (hok : okMn γ) {p : Nat} (hp : p < 10) : okMn (doF R γ p) := by
  rw [doF]
  by_cases h : seB γ p = true ∧ ¬ R < γ 1 p
  · rw [if_pos h]; exact g2_ok hok (mo_8 (hok p hp) ⟨1, by omega, by omega, rfl⟩)
  · rw [if_neg h]; exact hok
/-! who speaks at a minute's beginning keeps his answer until the door -/
def Kp (γ γ' : Men) : Prop := ∀ q, seB γ q = true → γ' 6 q = γ 6 q ∧ γ' 8 q = γ 8 q
theorem Kp.rfl {γ : Men} : Kp γ γ := fun _ _ => ⟨Eq.refl _, Eq.refl _⟩
theorem Kp.se {γ γ' : Men} (h : Kp γ γ') {q : Nat} (hq : seB γ q = true) : seB γ' q = true := by
  obtain ⟨h1, h2⟩ := h q hq
  rw [se_t] at hq ⊢
  rw [h1, h2]; exact hq
theorem Kp.no {γ γ' : Men} (h : Kp γ γ') {p : Nat} (ho : opB γ' p = true) : ¬ seB γ p = true := fun z => (se_t.mp (h.se z)).2 (op_t.mp ho).2
theorem t1_ne {H : Int32} {sol : Nat → Bool} {p : Nat} {γ : Men} {a q : Nat} (hq : q ≠ p) : t1F H sol p γ a q = γ a q := by
  rw [t1F]
  by_cases h : sol (γ 5 p).toNatClampNeg = true
  · rw [if_pos h, g2_ne (fun z => hq z.2), g2_ne (fun z => hq z.2)]
  · rw [if_neg h, g2_ne (fun z => hq z.2), g2_ne (fun z => hq z.2)]
theorem tr_ne {H : Int32} {sol : Nat → Bool} {p : Nat} : ∀ f (γ : Men) {a q : Nat}, q ≠ p → trF H sol p f γ a q = γ a q
  | 0, _, _, _, _ => Eq.refl _
  | f + 1, γ, a, q, hq => by
    by_cases h : ¬ γ 7 p < H ∧ γ 6 p < 0
    · rw [tr_go h, tr_ne f _ hq, t1_ne hq]
    · rw [tr_no h]
theorem wo_ne {H : Int32} {sol : Nat → Bool} {γ : Men} {p a q : Nat} (hq : q ≠ p) : woF H sol γ p a q = γ a q := by
  rw [woF]
  by_cases ho : opB γ p = true
  · rw [if_pos ho]
    by_cases hz : γ 1 p = 0
    · rw [if_pos hz]
    · rw [if_neg hz, tr_ne _ _ hq, w0F, g2_ne (fun z => hq z.2), g2_ne (fun z => hq z.2)]
  · rw [if_neg ho]
theorem Kp.wo {γ γ' : Men} (h : Kp γ γ') (H : Int32) (sol : Nat → Bool) (p : Nat) : Kp γ (woF H sol γ' p) := by
  intro q hq
  by_cases e : q = p
  · subst e
    have ho : ¬ opB γ' q = true := fun z => h.no z hq
    rw [woF, if_neg ho]; exact h q hq
  · rw [wo_ne e, wo_ne e]; exact h q hq
theorem Kp.bu {γ γ' : Men} (h : Kp γ γ') (p : Nat) : Kp γ (buF γ' p) := by
  intro q hq
  rw [buF]
  by_cases ho : opB γ' p = true
  · rw [if_pos ho]
    have hqp : q ≠ p := fun z => h.no ho (z ▸ hq)
    cases hc : chF γ' 10 with
    | none => exact h q hq
    | some s =>
      rw [buO]
      by_cases hl : γ' 1 p < γ' 2 s
      · rw [if_pos hl]; exact h q hq
      · rw [if_neg hl, b0F, g2_ne (fun z => hqp z.2), g2_ne (by omega), g2_ne (by omega), g2_ne (by omega), g2_ne (by omega), g2_ne (by omega)]; exact h q hq
  · rw [if_neg ho]; exact h q hq
theorem Kp.li {γ γ' : Men} (h : Kp γ γ') (spk : Nat → Bool) (p : Nat) : Kp γ (liF spk γ' p) := by
  intro q hq
  rw [liF]
  by_cases ho : opB γ' p = true
  · rw [if_pos ho]
    have hqp : q ≠ p := fun z => h.no ho (z ▸ hq)
    cases hc : heF γ' spk p with
    | none => exact h q hq
    | some s => rw [liO, g2_ne (fun z => hqp z.2), g2_ne (by omega)]; exact h q hq
  · rw [if_neg ho]; exact h q hq
theorem fp_ind {F : Men → Nat → Men} {P : Men → Prop} {γ : Men} (h0 : P γ) (hs : ∀ γ p, p < 10 → P γ → P (F γ p)) : ∀ n, n ≤ 10 → P (fpF F γ n)
  | 0, _ => h0
  | n + 1, h => hs _ n (by omega) (fp_ind h0 hs n (by omega))
theorem fp_id {F : Men → Nat → Men} {γ : Men} (h : ∀ p, p < 10 → F γ p = γ) : ∀ n, n ≤ 10 → fpF F γ n = γ
  | 0, _ => rfl
  | n + 1, hn => by rw [fpF, fp_id h n (by omega), h n (by omega)]
theorem fi_se {γ : Men} {spk : Nat → Bool} {w : Int32} : ∀ m i s, fiF γ spk w m i = some s → i ≤ s ∧ s < i + m ∧ γ 3 s = w ∧ spk s = true
  | 0, i, s, h => by cases h
  | m + 1, i, s, h => by
    rw [fiF] at h
    by_cases hc : γ 3 i = w ∧ spk i = true
    · rw [if_pos hc] at h; cases h; exact ⟨Nat.le_refl _, by omega, hc.1, hc.2⟩
    · rw [if_neg hc] at h
      obtain ⟨h1, h2, h3⟩ := fi_se m (i + 1) s h
      exact ⟨by omega, by omega, h3⟩
theorem fi_no {γ : Men} {spk : Nat → Bool} {w : Int32} : ∀ m i, fiF γ spk w m i = none → ∀ s, i ≤ s → s < i + m → ¬ (γ 3 s = w ∧ spk s = true)
  | 0, i, _, s, h1, h2 => by omega
  | m + 1, i, h, s, h1, h2 => by
    rw [fiF] at h
    by_cases hc : γ 3 i = w ∧ spk i = true
    · rw [if_pos hc] at h; cases h
    · rw [if_neg hc] at h
      by_cases e : s = i
      · subst e; exact hc
      · exact fi_no m (i + 1) h s (by omega) (by omega)
theorem fi_none {γ : Men} {spk : Nat → Bool} {w : Int32} (h : ∀ p, p < 10 → spk p = false) : ∀ m i, i + m ≤ 10 → fiF γ spk w m i = none
  | 0, _, _ => rfl
  | m + 1, i, hi => by
    rw [fiF, if_neg (fun z => by rw [h i (by omega)] at z; exact absurd z.2 (by decide)), fi_none h m (i + 1) (by omega)]
theorem he_se {γ : Men} {spk : Nat → Bool} {p s : Nat} (h : heF γ spk p = some s) : s < 10 ∧ spk s = true := by
  rw [heF] at h
  cases hz : fiF γ spk (γ 3 p - 1) 10 0 with
  | some z =>
    rw [hz, orO] at h
    have e : z = s := Option.some.inj h
    rw [e] at hz
    have := fi_se 10 0 s hz
    exact ⟨by omega, this.2.2.2⟩
  | none =>
    rw [hz, orO] at h
    have := fi_se 10 0 s h
    exact ⟨by omega, this.2.2.2⟩
theorem li_ok {γ0 γ : Men} (hk : Kp γ0 γ) (hok : okMn γ) {p : Nat} (hp : p < 10) : okMn (liF (seB γ0) γ p) := by
  rw [liF]
  by_cases ho : opB γ p = true
  · rw [if_pos ho]
    cases hs : heF γ (seB γ0) p with
    | none => exact hok
    | some s =>
      obtain ⟨hs10, hse⟩ := he_se hs
      exact g2_ok hok (mo_6 (hok p hp) (se_ans hok hs10 (hk.se hse)))
  · rw [if_neg ho]; exact hok
theorem s1_ok {h : Nat} (h2 : 2 ≤ h) (h58 : h ≤ 58) (sol : Nat → Bool) {γ : Men} (hok : okMn γ) : ∀ n, n ≤ 10 → okMn (fpF (woF (nI h) sol) γ n) ∧ Kp γ (fpF (woF (nI h) sol) γ n) :=
  fp_ind (P := fun δ => okMn δ ∧ Kp γ δ) ⟨hok, Kp.rfl⟩ (fun δ p hp hδ => ⟨wo_ok h2 h58 sol hδ.1 hp, hδ.2.wo _ _ p⟩)
theorem s2_ok {h : Nat} (h2 : 2 ≤ h) (h58 : h ≤ 58) (sol : Nat → Bool) {γ : Men} (hok : okMn γ) : ∀ n, n ≤ 10 → okMn (fpF buF (s1F (nI h) sol γ) n) ∧ Kp γ (fpF buF (s1F (nI h) sol γ) n) :=
  fp_ind (P := fun δ => okMn δ ∧ Kp γ δ) (s1_ok h2 h58 sol hok 10 (by omega)) (fun δ p hp hδ => ⟨bu_ok hδ.1 hp, hδ.2.bu p⟩)
theorem s3_ok {h : Nat} (h2 : 2 ≤ h) (h58 : h ≤ 58) (sol : Nat → Bool) {γ : Men} (hok : okMn γ) : ∀ n, n ≤ 10 → okMn (fpF (liF (seB γ)) (s2F (nI h) sol γ) n) ∧ Kp γ (fpF (liF (seB γ)) (s2F (nI h) sol γ) n) :=
  fp_ind (P := fun δ => okMn δ ∧ Kp γ δ) (s2_ok h2 h58 sol hok 10 (by omega)) (fun δ p hp hδ => ⟨li_ok hδ.2 hδ.1 hp, hδ.2.li _ p⟩)
theorem s4_ok {h : Nat} (h2 : 2 ≤ h) (h58 : h ≤ 58) (sol : Nat → Bool) {γ : Men} (hok : okMn γ) (R : Int32) : ∀ n, n ≤ 10 → okMn (fpF (doF R) (s3F (nI h) sol γ) n) :=
  fp_ind (P := fun δ => okMn δ) (s3_ok h2 h58 sol hok 10 (by omega)).1 (fun δ p hp hδ => do_ok hδ hp)
theorem mi_ok {h : Nat} (h2 : 2 ≤ h) (h58 : h ≤ 58) (sol : Nat → Bool) {γ : Men} (hok : okMn γ) (R : Int32) : okMn (miF (nI h) sol R γ) := s4_ok h2 h58 sol hok R 10 (by omega)
theorem it_ok {h : Nat} (h2 : 2 ≤ h) (h58 : h ≤ 58) (sol : Nat → Bool) (R : Int32) : ∀ n {γ : Men}, okMn γ → okMn (itF (miF (nI h) sol R) n γ)
  | 0, _, hok => hok
  | n + 1, _, hok => it_ok h2 h58 sol R n (mi_ok h2 h58 sol hok R)
/-! where nobody sells, nothing is bought, read or opened -/
theorem bu_no {γ : Men} (h : ∀ p, p < 10 → seB γ p = false) (p : Nat) : buF γ p = γ := by
  rw [buF, ch_none 10 h, buO]
  by_cases ho : opB γ p = true
  · rw [if_pos ho]
  · rw [if_neg ho]
theorem li_no {spk : Nat → Bool} (h : ∀ p, p < 10 → spk p = false) (γ : Men) (p : Nat) : liF spk γ p = γ := by
  have : heF γ spk p = none := by rw [heF, fi_none h 10 0 (by omega), orO, fi_none h 10 0 (by omega)]
  rw [liF, this, liO]
  by_cases ho : opB γ p = true
  · rw [if_pos ho]
  · rw [if_neg ho]
theorem do_no {R : Int32} {γ : Men} {p : Nat} (h : seB γ p = false) : doF R γ p = γ := by
  rw [doF, if_neg (fun z => by rw [h] at z; exact absurd z.1 (by decide))]
theorem hard_ok {C : Nat → Int32} (h : rng 2 39 (C 2)) : ∃ n : Nat, 2 ≤ n ∧ n ≤ 58 ∧ hardC C = nI n := by
  obtain ⟨n, h1, h2, e⟩ := h
  rw [hardC, e]
  by_cases c1 : C 0 = 1 ∨ C 0 = 5
  · rw [if_pos c1]
    refine ⟨n + n / 2, by omega, by omega, ?_⟩
    rw [show nI n / 2 = nI (n / 2) from pk_div (d := 2) (by omega) (by omega) (by omega), nI_add]
  · rw [if_neg c1]
    by_cases c3 : C 0 = 3
    · rw [if_pos c3, add5]; exact ⟨n + 5, by omega, by omega, rfl⟩
    · rw [if_neg c3]; exact ⟨n, by omega, by omega, rfl⟩
