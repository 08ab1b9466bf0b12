abbrev lok2 (l m : Option AV) : Prop := (l = none ∧ m = none) ∨ ∃ y z, l = some (vi y) ∧ m = some (vi z)
theorem lpL2 {α : Type} (A : Nat → Option AV → Option AV → α) {N : Nat} (h : ∀ j l m, j < N → lok2 l m → ∃ y z, A j l m = A (j + 1) (some (vi y)) (some (vi z))) : ∀ j l m, j ≤ N → lok2 l m → ∃ l' m', lok2 l' m' ∧ A j l m = A N l' m' := by
  intro j l m hj hl
  induction hn : N - j generalizing j l m with
  | zero => rw [show j = N by omega]; exact ⟨l, m, hl, rfl⟩
  | succ i ih =>
    obtain ⟨y, z, e⟩ := h j l m (by omega) hl
    obtain ⟨l', m', h1, e2⟩ := ih (j + 1) (some (vi y)) (some (vi z)) (by omega) (Or.inr ⟨y, z, rfl, rfl⟩) (by omega)
    exact ⟨l', m', h1, e.trans e2⟩
def bt (m s : Nat) : Bool := decide ((nI m >>> (nI s &&& 31)) &&& 1 = 1)
theorem bt_key : ∀ m, m < 256 → ∀ s, s < 8 → bt m s = true → 2 ^ s ≤ m := by decide +kernel
theorem sh_key : ∀ n, n ≤ 8 → (1 : Int32) <<< (nI n &&& 31) = nI (2 ^ n) ∧ 2 ^ n ≤ 256 := by decide +kernel
def anF (L : Nat → Int32) (m : Nat) : Nat → Int32
  | 0 => 0
  | s + 1 => if bt m s = true then anF L m s ||| L s else anF L m s
theorem an_t {L : Nat → Int32} {m s : Nat} (h : bt m s = true) : anF L m (s + 1) = anF L m s ||| L s := if_pos h
theorem an_f {L : Nat → Int32} {m s : Nat} (h : ¬ bt m s = true) : anF L m (s + 1) = anF L m s := if_neg h
theorem an_congr {L L' : Nat → Int32} {m : Nat} : ∀ n, (∀ s, s < n → L s = L' s) → anF L m n = anF L' m n
  | 0, _ => rfl
  | n + 1, h => by rw [anF, anF, an_congr n (fun s hs => h s (by omega)), h n (by omega)]
theorem an_top {L : Nat → Int32} {m n : Nat} (hm : m < 2 ^ n) (n8 : n ≤ 8) : ∀ d, n + d ≤ 8 → anF L m (n + d) = anF L m n
  | 0, _ => rfl
  | d + 1, h => by
    have h1 := (sh_key n n8).2
    have : ¬ bt m (n + d) = true := fun z => by
      have h2 := bt_key m (by omega) (n + d) (by omega) z
      have h3 : 2 ^ n ≤ 2 ^ (n + d) := Nat.pow_le_pow_right (by omega) (by omega)
      omega
    exact (an_f this).trans (an_top hm n8 d (by omega))
def okB (b : Option Nat) (m : Nat) : Bool := match b with
  | none => true
  | some b => decide (cntF 10 m < cntF 10 b)
def fwF (A : Nat → Bool) : Nat → Option Nat
  | 0 => none
  | m + 1 => if A m = true ∧ okB (fwF A m) m = true then some m else fwF A m
theorem fw_t {A : Nat → Bool} {m : Nat} (h : A m = true ∧ okB (fwF A m) m = true) : fwF A (m + 1) = some m := if_pos h
theorem fw_f {A : Nat → Bool} {m : Nat} (h : ¬ (A m = true ∧ okB (fwF A m) m = true)) : fwF A (m + 1) = fwF A m := if_neg h
theorem fw_le {A : Nat → Bool} : ∀ r y, fwF A r = some y → y < r
  | 0, _, e => by cases e
  | m + 1, y, e => by
    by_cases z : A m = true ∧ okB (fwF A m) m = true
    · rw [fw_t z] at e
      have := Option.some.inj e
      omega
    · rw [fw_f z] at e
      have := fw_le m y e
      omega
theorem SumsOK.keep2 {I J : IFn} {t1 : TFn} {k n : Nat} {Cf : Nat → Nat → Int32} (h : SumsOK I t1 k n Cf) (hf : ∀ g j i, ¬ (g = 0 ∧ 35 ≤ j ∧ j ≤ 46) → J g j i = I g j i) : SumsOK J t1 k n Cf := by
  obtain ⟨h1, h2, h3, h4⟩ := h
  refine ⟨h1, by rw [hf _ _ _ (by omega)]; exact h2, h3, fun q hq => ?_⟩
  rw [hf 0 6 q (by omega), hf 0 7 q (by omega)]
  exact sumOK.congr (fun e _ j i _ _ _ _ => hf _ _ _ (by omega)) (h4 q hq)
section
variable (d : Nat) (I : IFn) (t1 t2 : TFn) (k : Nat) (sc : Nat × (Nat → Int32))
theorem m_onesN {m : Nat} (h : m < 1024) : den (d, 8, 9, 0, [some (vi (nI m)), none, none], [], mkH I t1 t2 k sc) = some (some (vi (nI (cntF 10 m))), mkH I t1 t2 k sc) := by
  rw [b8_9_0]
  refine (m_onesL d I t1 t2 k sc (nI m) m h 0).trans ?_
  rw [Nat.zero_add]
theorem x_bitsN {m : Nat} (h : m < 1024) : den (d, 10, 0, 0, [some (vi (nI m))], [], mkH I t1 t2 k sc) = some (some (vi (nI (cntF 10 m))), mkH I t1 t2 k sc) := by
  refine (b10_0_0 d (nI m) I t1 t2 k sc).trans ?_
  exact congrArg (fun z => some (some (vi z), mkH I t1 t2 k sc)) (bc_key m h)
theorem x_any (m : Nat) : den (d, 7, 54, 0, [some (vr 0 0), some (vi (nI m)), none, none], [], mkH I t1 t2 k sc) = some (some (vi (anF (fun i => I 0 46 i) m 8)), mkH I t1 t2 k sc) := by
  have st : ∀ s, s < 8 → den (d, 7, 54, 4, [some (vr 0 0), some (vi (nI m)), some (vi (anF (fun i => I 0 46 i) m s)), some (vi (nI s))], [], mkH I t1 t2 k sc) = den (d, 7, 54, 4, [some (vr 0 0), some (vi (nI m)), some (vi (anF (fun i => I 0 46 i) m (s + 1))), some (vi (nI (s + 1)))], [], mkH I t1 t2 k sc) := by
    intro s hs
    rw [b7_54_4]
    by_cases h : (nI m >>> (nI s &&& 31)) &&& 1 = 1
    · rw [an_t (decide_eq_true h)]
      simp (disch := omega) only [bnd, bnd0, ↓cdec, ↓cnot, ↓reduceIte, Bo_0, Bo_1, ↓Bo_ok, i10, i01, eq_self, decide_true, decide_false, Bool.or_true, Bool.true_or, Bool.or_false, Bool.false_or, cond_true, cond_false, not_true_eq_false, not_false_eq_true, Bool.false_eq_true, and_self, and_true, true_and, and_false, false_and, nI_clamp, ↓inbc, inb_n, nI_pos, nI_1, lt_8, hs, h, b7_54_13, b7_54_22, b7_54_31]
    · rw [an_f (fun z => h (of_decide_eq_true z))]
      simp (disch := omega) only [bnd, bnd0, ↓cdec, ↓cnot, ↓reduceIte, Bo_0, Bo_1, ↓Bo_ok, i10, i01, eq_self, decide_true, decide_false, Bool.or_true, Bool.true_or, Bool.or_false, Bool.false_or, cond_true, cond_false, not_true_eq_false, not_false_eq_true, Bool.false_eq_true, and_self, and_true, true_and, and_false, false_and, nI_clamp, ↓inbc, inb_n, nI_pos, nI_1, lt_8, hs, h, b7_54_13, b7_54_31]
  rw [b7_54_0]
  refine (lp (fun s => den (d, 7, 54, 4, [some (vr 0 0), some (vi (nI m)), some (vi (anF (fun i => I 0 46 i) m s)), some (vi (nI s))], [], mkH I t1 t2 k sc)) st 0 (by omega)).trans ?_
  rw [b7_54_4]
  simp (disch := omega) only [bnd, bnd0, ↓cdec, ↓cnot, ↓reduceIte, Bo_0, Bo_1, ↓Bo_ok, i10, i01, eq_self, decide_true, decide_false, Bool.or_true, Bool.true_or, Bool.or_false, Bool.false_or, cond_true, cond_false, not_true_eq_false, not_false_eq_true, Bool.false_eq_true, and_self, and_true, true_and, and_false, false_and, nI_clamp, ↓inbc, inb_n, nI_pos, nI_1, lt_8, Nat.lt_irrefl, b7_54_37]
end
/-- fewest -/
theorem ok_24 : op_24 Inv := by
  intro a1 I t1 t2 k sc hI
  by_cases h1 : 1 ≤ a1.toInt ∧ a1.toInt ≤ 100
  · obtain ⟨n, n8, c0, c0', c1, c2, c3, c4, ht, hQ⟩ := hI.head
    obtain ⟨N, hN, rfl⟩ := nat_of (x := a1) (m := 101) (by omega) (by omega) (by omega)
    obtain ⟨γ, hX, hM, hok⟩ := hI.men
    have hs : SumsOK I t1 k n (cS I) := ⟨n8, c0', ht, hQ⟩
    obtain ⟨sh, p256⟩ := sh_key n n8
    generalize hL : (fun s => outS (goF (nI s) (cS I) (I 0 8 10) N (dG γ))) = L
    have hL' : ∀ s, outS (goF (nI s) (cS I) (I 0 8 10) N (dG γ)) = L s := fun s => by rw [← hL]
    generalize hA : (fun m => decide (anF L m n = mayS γ)) = A
    have hA' : ∀ m, A m = decide (anF L m n = mayS γ) := fun m => by rw [← hA]
    have l1 : (-1 : Int32) < 0 := by decide
    obtain ⟨J1, ex, fl1, f1⟩ := lpE (fun s J => den (9 + 1, 7, 25, 19, [some (vr 0 0), some (vi (nI N)), some (vi (nI s)), none, none], [], mkH (J) t1 t2 k sc)) (fun s J => (∀ i, i < s → J 0 46 i = L i) ∧ ∀ g j i, ¬ (g = 0 ∧ ((35 ≤ j ∧ j ≤ 44) ∨ j = 46)) → J g j i = I g j i) (N := n)
      (by
        intro s J hsn ⟨hl, hf⟩
        obtain ⟨K, e, fK⟩ := x_letOut 4 J t1 t2 k sc hsn (show N ≤ 480 by omega) (hX.keep (fun j p _ _ _ => hf _ _ _ (by omega))) hok (hs.keep2 (fun g j i hn => hf _ _ _ (by omega)))
        rw [show J 0 8 10 = I 0 8 10 from hf _ _ _ (by omega), hL'] at e
        have j3 : J 0 4 3 = nI n := by rw [hf _ _ _ (by omega)]; exact c0'
        have g1 : nI s < nI n := nI_lt hsn (by omega)
        have g8 : s < 8 := by omega
        refine ⟨uI K 0 46 s (L s), ?_, fun i hi => ?_, fun g j i hn => ?_⟩
        · rw [b7_25_19]
          simp (disch := omega) only [bnd, bnd0, ↓cdec, ↓cnot, ↓reduceIte, Bo_0, Bo_1, ↓Bo_ok, i10, i01, eq_self, decide_true, decide_false, Bool.or_true, Bool.true_or, Bool.or_false, Bool.false_or, cond_true, cond_false, not_true_eq_false, not_false_eq_true, Bool.false_eq_true, and_self, and_true, true_and, and_false, false_and, nI_clamp, ↓inbc, inb_n, nI_pos, nI_1, j3, g1, g8, lt_8, b7_25_33, b7_25_42, b7_25_53, e]
        · by_cases ei : i = s
          · rw [ei, uI_at (by omega)]
          · rw [uI_ne (by omega), fK _ _ _ (by omega)]; exact hl i (by omega)
        · rw [uI_ne (by omega), fK _ _ _ (by omega)]; exact hf _ _ _ hn) 0 I (by omega) ⟨fun i hi => by omega, fun _ _ _ _ => rfl⟩
    have j3 : J1 0 4 3 = nI n := by rw [f1 _ _ _ (by omega)]; exact c0'
    have mx := mayX (hX.keep (fun j p _ _ _ => f1 _ _ _ (by omega)) : MenX 8 J1 γ) hok
    have nl : ¬ nI n < nI n := nI_nlt (by omega) (by omega)
    obtain ⟨lx, hlx, ex2⟩ := lpL (fun m l => den (9 + 1, 7, 25, 64, [some (vr 0 0), some (vi (nI N)), some (vi (skI (fwF A m))), some (vi (nI m)), l], [], mkH (J1) t1 t2 k sc)) (N := 2 ^ n)
      (by
        intro m l hm hl
        have g1 : nI m < nI (2 ^ n) := nI_lt hm (by omega)
        have an : anF (fun i => J1 0 46 i) m 8 = anF L m n := by
          rw [← an_congr n fl1]
          have := an_top (L := fun i => J1 0 46 i) hm n8 (8 - n) (by omega)
          rw [show n + (8 - n) = 8 by omega] at this
          exact this
        have xa := x_any 9 J1 t1 t2 k sc m
        rw [an] at xa
        have xb := x_bitsN 9 J1 t1 t2 k sc (show m < 1024 by omega)
        have mid : ∃ y : Int32, den (9 + 1, 7, 25, 64, [some (vr 0 0), some (vi (nI N)), some (vi (skI (fwF A m))), some (vi (nI m)), l], [], mkH (J1) t1 t2 k sc) = if okB (fwF A m) m = true then den (9 + 1, 7, 25, 107, [some (vr 0 0), some (vi (nI N)), some (vi (skI (fwF A m))), some (vi (nI m)), some (vi y)], [], mkH (J1) t1 t2 k sc) else den (9 + 1, 7, 25, 127, [some (vr 0 0), some (vi (nI N)), some (vi (skI (fwF A m))), some (vi (nI m)), some (vi y)], [], mkH (J1) t1 t2 k sc) := by
          cases hw : fwF A m with
          | none =>
            refine ⟨1, ?_⟩
            rw [if_pos (show okB none m = true from rfl), skI]
            rcases hl with rfl | ⟨y, rfl⟩
            · rw [b7_25_64]
              simp (disch := omega) only [bnd, bnd0, ↓cdec, ↓cnot, ↓reduceIte, Bo_0, Bo_1, ↓Bo_ok, i10, i01, eq_self, decide_true, decide_false, Bool.or_true, Bool.true_or, Bool.or_false, Bool.false_or, cond_true, cond_false, not_true_eq_false, not_false_eq_true, Bool.false_eq_true, and_self, and_true, true_and, and_false, false_and, nI_clamp, ↓inbc, inb_n, nI_pos, nI_1, j3, sh, g1, l1, b7_25_80, b7_25_95, b7_25_100]
            · rw [b7_25_64w]
              simp (disch := omega) only [bnd, bnd0, ↓cdec, ↓cnot, ↓reduceIte, Bo_0, Bo_1, ↓Bo_ok, i10, i01, eq_self, decide_true, decide_false, Bool.or_true, Bool.true_or, Bool.or_false, Bool.false_or, cond_true, cond_false, not_true_eq_false, not_false_eq_true, Bool.false_eq_true, and_self, and_true, true_and, and_false, false_and, nI_clamp, ↓inbc, inb_n, nI_pos, nI_1, j3, sh, g1, l1, b7_25_80w, b7_25_95w, b7_25_100w]
          | some b =>
            have hb := fw_le m b hw
            have xb2 := x_bitsN 9 J1 t1 t2 k sc (show b < 1024 by omega)
            have b1 := cnt_le 10 m
            have b2 := cnt_le 10 b
            rw [skI, okB]
            by_cases hc : cntF 10 m < cntF 10 b
            · have hc' : nI (cntF 10 m) < nI (cntF 10 b) := nI_lt hc (by omega)
              refine ⟨1, ?_⟩
              rw [if_pos (decide_eq_true hc)]
              rcases hl with rfl | ⟨y, rfl⟩
              · rw [b7_25_64]
                simp (disch := omega) only [bnd, bnd0, ↓cdec, ↓cnot, ↓reduceIte, Bo_0, Bo_1, ↓Bo_ok, i10, i01, eq_self, decide_true, decide_false, Bool.or_true, Bool.true_or, Bool.or_false, Bool.false_or, cond_true, cond_false, not_true_eq_false, not_false_eq_true, Bool.false_eq_true, and_self, and_true, true_and, and_false, false_and, nI_clamp, ↓inbc, inb_n, nI_pos, nI_1, j3, sh, g1, b7_25_80, b7_25_84, b7_25_88, b7_25_92, b7_25_95, b7_25_100, xb, xb2, hc']
              · rw [b7_25_64w]
                simp (disch := omega) only [bnd, bnd0, ↓cdec, ↓cnot, ↓reduceIte, Bo_0, Bo_1, ↓Bo_ok, i10, i01, eq_self, decide_true, decide_false, Bool.or_true, Bool.true_or, Bool.or_false, Bool.false_or, cond_true, cond_false, not_true_eq_false, not_false_eq_true, Bool.false_eq_true, and_self, and_true, true_and, and_false, false_and, nI_clamp, ↓inbc, inb_n, nI_pos, nI_1, j3, sh, g1, b7_25_80w, b7_25_84w, b7_25_88w, b7_25_92w, b7_25_95w, b7_25_100w, xb, xb2, hc']
            · have hc' : ¬ nI (cntF 10 m) < nI (cntF 10 b) := nI_nlt (by omega) (by omega)
              refine ⟨0, ?_⟩
              rw [if_neg (fun z => hc (of_decide_eq_true z))]
              rcases hl with rfl | ⟨y, rfl⟩
              · rw [b7_25_64]
                simp (disch := omega) only [bnd, bnd0, ↓cdec, ↓cnot, ↓reduceIte, Bo_0, Bo_1, ↓Bo_ok, i10, i01, eq_self, decide_true, decide_false, Bool.or_true, Bool.true_or, Bool.or_false, Bool.false_or, cond_true, cond_false, not_true_eq_false, not_false_eq_true, Bool.false_eq_true, and_self, and_true, true_and, and_false, false_and, nI_clamp, ↓inbc, inb_n, nI_pos, nI_1, j3, sh, g1, b7_25_80, b7_25_84, b7_25_88, b7_25_92, b7_25_99, b7_25_100, xb, xb2, hc']
              · rw [b7_25_64w]
                simp (disch := omega) only [bnd, bnd0, ↓cdec, ↓cnot, ↓reduceIte, Bo_0, Bo_1, ↓Bo_ok, i10, i01, eq_self, decide_true, decide_false, Bool.or_true, Bool.true_or, Bool.or_false, Bool.false_or, cond_true, cond_false, not_true_eq_false, not_false_eq_true, Bool.false_eq_true, and_self, and_true, true_and, and_false, false_and, nI_clamp, ↓inbc, inb_n, nI_pos, nI_1, j3, sh, g1, b7_25_80w, b7_25_84w, b7_25_88w, b7_25_92w, b7_25_99w, b7_25_100w, xb, xb2, hc']
        obtain ⟨y, mid⟩ := mid
        refine ⟨y, mid.trans ?_⟩
        by_cases ho : okB (fwF A m) m = true
        · rw [if_pos ho]
          by_cases ha : anF L m n = mayS γ
          · rw [fw_t ⟨(hA' m).trans (decide_eq_true ha), ho⟩, skI]
            simp (disch := omega) only [bnd, bnd0, ↓cdec, ↓cnot, ↓reduceIte, Bo_0, Bo_1, ↓Bo_ok, i10, i01, eq_self, decide_true, decide_false, Bool.or_true, Bool.true_or, Bool.or_false, Bool.false_or, cond_true, cond_false, not_true_eq_false, not_false_eq_true, Bool.false_eq_true, and_self, and_true, true_and, and_false, false_and, nI_clamp, ↓inbc, inb_n, nI_pos, nI_1, b7_25_107, b7_25_112, b7_25_122, b7_25_125, b7_25_127, xa, x_maySet, mx, ha]
          · rw [fw_f (fun z => ha (of_decide_eq_true ((hA' m).symm.trans z.1)))]
            simp (disch := omega) only [bnd, bnd0, ↓cdec, ↓cnot, ↓reduceIte, Bo_0, Bo_1, ↓Bo_ok, i10, i01, eq_self, decide_true, decide_false, Bool.or_true, Bool.true_or, Bool.or_false, Bool.false_or, cond_true, cond_false, not_true_eq_false, not_false_eq_true, Bool.false_eq_true, and_self, and_true, true_and, and_false, false_and, nI_clamp, ↓inbc, inb_n, nI_pos, nI_1, b7_25_107, b7_25_112, b7_25_122, b7_25_127, xa, x_maySet, mx, ha]
        · rw [if_neg ho, fw_f (fun z => ho z.2)]
          simp (disch := omega) only [bnd, bnd0, ↓cdec, ↓cnot, ↓reduceIte, Bo_0, Bo_1, ↓Bo_ok, i10, i01, eq_self, decide_true, decide_false, Bool.or_true, Bool.true_or, Bool.or_false, Bool.false_or, cond_true, cond_false, not_true_eq_false, not_false_eq_true, Bool.false_eq_true, and_self, and_true, true_and, and_false, false_and, nI_clamp, ↓inbc, inb_n, nI_pos, nI_1, b7_25_127]) 0 none (Nat.zero_le _) (Or.inl rfl)
    have hx0 : den (10, 7, 25, 0, [some (vr 0 0), some (vi (nI N)), none, none, none], [], mkH I t1 t2 k sc) = den (9 + 1, 7, 25, 133, [some (vr 0 0), some (vi (nI N)), some (vi (skI (fwF A (2 ^ n)))), some (vi (nI (2 ^ n))), lx], [], mkH (J1) t1 t2 k sc) := by
      have nl2 : ¬ nI (2 ^ n) < nI (2 ^ n) := nI_nlt (by omega) (by omega)
      refine Eq.trans ?_ (ex.trans (Eq.trans ?_ (ex2.trans ?_)))
      · simp (disch := omega) only [bnd, bnd0, ↓cdec, ↓cnot, ↓reduceIte, Bo_0, Bo_1, ↓Bo_ok, i10, i01, eq_self, decide_true, decide_false, Bool.or_true, Bool.true_or, Bool.or_false, Bool.false_or, cond_true, cond_false, not_true_eq_false, not_false_eq_true, Bool.false_eq_true, and_self, and_true, true_and, and_false, false_and, nI_clamp, ↓inbc, inb_n, nI_pos, nI_1, b7_25_0, b7_25_7, b7_25_17, x_within, k32_1, k32_100, h1]
        rfl
      · rw [b7_25_19]
        simp (disch := omega) only [bnd, bnd0, ↓cdec, ↓cnot, ↓reduceIte, Bo_0, Bo_1, ↓Bo_ok, i10, i01, eq_self, decide_true, decide_false, Bool.or_true, Bool.true_or, Bool.or_false, Bool.false_or, cond_true, cond_false, not_true_eq_false, not_false_eq_true, Bool.false_eq_true, and_self, and_true, true_and, and_false, false_and, nI_clamp, ↓inbc, inb_n, nI_pos, nI_1, j3, nl, b7_25_60]
        rfl
      · rcases hlx with rfl | ⟨y, rfl⟩
        · rw [b7_25_64]
          simp (disch := omega) only [bnd, bnd0, ↓cdec, ↓cnot, ↓reduceIte, Bo_0, Bo_1, ↓Bo_ok, i10, i01, eq_self, decide_true, decide_false, Bool.or_true, Bool.true_or, Bool.or_false, Bool.false_or, cond_true, cond_false, not_true_eq_false, not_false_eq_true, Bool.false_eq_true, and_self, and_true, true_and, and_false, false_and, nI_clamp, ↓inbc, inb_n, nI_pos, nI_1, j3, sh, nl2]
        · rw [b7_25_64w]
          simp (disch := omega) only [bnd, bnd0, ↓cdec, ↓cnot, ↓reduceIte, Bo_0, Bo_1, ↓Bo_ok, i10, i01, eq_self, decide_true, decide_false, Bool.or_true, Bool.true_or, Bool.or_false, Bool.false_or, cond_true, cond_false, not_true_eq_false, not_false_eq_true, Bool.false_eq_true, and_self, and_true, true_and, and_false, false_and, nI_clamp, ↓inbc, inb_n, nI_pos, nI_1, j3, sh, nl2]
    have hm0 : ∀ I1 : IFn, (∀ i, I1 0 57 i = I 0 57 i) → ∃ (J2 : IFn) (l m : Option AV), lok2 l m ∧ (∀ g j i, ¬ (g = 0 ∧ (j = 59 ∨ j = 64 ∨ j = 65 ∨ j = 66)) → J2 g j i = I1 g j i) ∧ den (10, 8, 62, 0, [some (vr 0 56), some (vi (nI N)), none, none, none, none, none], [], mkH (I1) t1 t2 k sc) = den (9 + 1, 8, 62, 156, [some (vr 0 56), some (vi (nI N)), some (vi (mayS γ)), some (vi (skI (fwF A (2 ^ n)))), some (vi (nI (2 ^ n))), l, m], [], mkH (J2) t1 t2 k sc) := by
      intro I1 hI1
      have mm := mayM (hM.keep (fun i _ _ => hI1 i) : MenM I1 γ)
      obtain ⟨J2, em, fl2, f2⟩ := lpE (fun s J => den (9 + 1, 8, 62, 26, [some (vr 0 56), some (vi (nI N)), some (vi (mayS γ)), some (vi (nI s)), none, none, none], [], mkH (J) t1 t2 k sc)) (fun s J => (∀ i, i < s → J 0 66 i = L i) ∧ ∀ g j i, ¬ (g = 0 ∧ (j = 59 ∨ j = 64 ∨ j = 65 ∨ j = 66)) → J g j i = I1 g j i) (N := n)
        (by
          intro s J hsn ⟨hl, hf⟩
          have rJ : ∀ i, J 0 57 i = I 0 57 i := fun i => (hf _ _ _ (by omega)).trans (hI1 i)
          obtain ⟨K, e, fK⟩ := m_letsOut 3 J t1 t2 k sc hsn (show N ≤ 480 by omega) (hM.keep (fun i _ _ => rJ i)) hok hs (fun q _ => funext fun a => rJ _)
          rw [rJ, ← c3.1, hL'] at e
          have j0 : J 0 57 0 = nI n := by rw [rJ]; exact c0
          have g1 : nI s < nI n := nI_lt hsn (by omega)
          have g8 : s < 8 := by omega
          refine ⟨uI K 0 66 s (L s), ?_, fun i hi => ?_, fun g j i hn => ?_⟩
          · rw [b8_62_26]
            simp (disch := omega) only [bnd, bnd0, ↓cdec, ↓cnot, ↓reduceIte, Bo_0, Bo_1, ↓Bo_ok, i10, i01, eq_self, decide_true, decide_false, Bool.or_true, Bool.true_or, Bool.or_false, Bool.false_or, cond_true, cond_false, not_true_eq_false, not_false_eq_true, Bool.false_eq_true, and_self, and_true, true_and, and_false, false_and, nI_clamp, ↓inbc, inb_n, nI_pos, nI_1, j0, g1, b8_62_36, b8_62_47, e]
          · by_cases ei : i = s
            · rw [ei, uI_at (by omega)]
            · rw [uI_ne (by omega), fK _ _ _ (by omega)]; exact hl i (by omega)
          · rw [uI_ne (by omega), fK _ _ _ (by omega)]; exact hf _ _ _ hn) 0 I1 (by omega) ⟨fun i hi => by omega, fun _ _ _ _ => rfl⟩
      have j0 : J2 0 57 0 = nI n := by rw [f2 _ _ _ (by omega), hI1]; exact c0
      have an : ∀ m, m < 2 ^ n → ∀ x3 : Int32, den (9 + 1, 8, 62, 78, [some (vr 0 56), some (vi (nI N)), some (vi (mayS γ)), some (vi x3), some (vi (nI m)), some (vi (anF L m 0)), some (vi (nI 0))], [], mkH (J2) t1 t2 k sc) = den (9 + 1, 8, 62, 121, [some (vr 0 56), some (vi (nI N)), some (vi (mayS γ)), some (vi x3), some (vi (nI m)), some (vi (anF L m n)), some (vi (nI n))], [], mkH (J2) t1 t2 k sc) := by
        intro m hm x3
        refine (lp (fun s => den (9 + 1, 8, 62, 78, [some (vr 0 56), some (vi (nI N)), some (vi (mayS γ)), some (vi x3), some (vi (nI m)), some (vi (anF L m s)), some (vi (nI s))], [], mkH (J2) t1 t2 k sc)) (N := n) ?_ 0 (by omega)).trans ?_
        · intro s hsn
          have g1 : nI s < nI n := nI_lt hsn (by omega)
          have l66 : J2 0 66 s = L s := fl2 s hsn
          show den _ = den _
          rw [b8_62_78]
          by_cases h : (nI m >>> (nI s &&& 31)) &&& 1 = 1
          · rw [an_t (decide_eq_true h)]
            simp (disch := omega) only [bnd, bnd0, ↓cdec, ↓cnot, ↓reduceIte, Bo_0, Bo_1, ↓Bo_ok, i10, i01, eq_self, decide_true, decide_false, Bool.or_true, Bool.true_or, Bool.or_false, Bool.false_or, cond_true, cond_false, not_true_eq_false, not_false_eq_true, Bool.false_eq_true, and_self, and_true, true_and, and_false, false_and, nI_clamp, ↓inbc, inb_n, nI_pos, nI_1, j0, g1, h, l66, b8_62_89, b8_62_98, b8_62_101, b8_62_112, b8_8_0, b8_8_9, b8_8_14]
          · rw [an_f (fun z => h (of_decide_eq_true z))]
            simp (disch := omega) only [bnd, bnd0, ↓cdec, ↓cnot, ↓reduceIte, Bo_0, Bo_1, ↓Bo_ok, i10, i01, eq_self, decide_true, decide_false, Bool.or_true, Bool.true_or, Bool.or_false, Bool.false_or, cond_true, cond_false, not_true_eq_false, not_false_eq_true, Bool.false_eq_true, and_self, and_true, true_and, and_false, false_and, nI_clamp, ↓inbc, inb_n, nI_pos, nI_1, j0, g1, h, b8_62_89, b8_62_98, b8_62_111, b8_62_112, b8_8_0, b8_8_13, b8_8_14, or0]
        · rw [b8_62_78]
          simp (disch := omega) only [bnd, bnd0, ↓cdec, ↓cnot, ↓reduceIte, Bo_0, Bo_1, ↓Bo_ok, i10, i01, eq_self, decide_true, decide_false, Bool.or_true, Bool.true_or, Bool.or_false, Bool.false_or, cond_true, cond_false, not_true_eq_false, not_false_eq_true, Bool.false_eq_true, and_self, and_true, true_and, and_false, false_and, nI_clamp, ↓inbc, inb_n, nI_pos, nI_1, j0, nl]
      obtain ⟨l, m, hlm, em2⟩ := lpL2 (fun m l l' => den (9 + 1, 8, 62, 59, [some (vr 0 56), some (vi (nI N)), some (vi (mayS γ)), some (vi (skI (fwF A m))), some (vi (nI m)), l, l'], [], mkH (J2) t1 t2 k sc)) (N := 2 ^ n)
        (by
          intro m l l' hm hl
          have g1 : nI m < nI (2 ^ n) := nI_lt hm (by omega)
          refine ⟨anF L m n, nI n, Eq.trans ?_ ((an m hm (skI (fwF A m))).trans ?_)⟩
          · rcases hl with ⟨rfl, rfl⟩ | ⟨y, z, rfl, rfl⟩
            · rw [b8_62_59]
              simp (disch := omega) only [bnd, bnd0, ↓cdec, ↓cnot, ↓reduceIte, Bo_0, Bo_1, ↓Bo_ok, i10, i01, eq_self, decide_true, decide_false, Bool.or_true, Bool.true_or, Bool.or_false, Bool.false_or, cond_true, cond_false, not_true_eq_false, not_false_eq_true, Bool.false_eq_true, and_self, and_true, true_and, and_false, false_and, nI_clamp, ↓inbc, inb_n, nI_pos, nI_1, j0, sh, g1, b8_62_72]
              rfl
            · rw [b8_62_59w]
              simp (disch := omega) only [bnd, bnd0, ↓cdec, ↓cnot, ↓reduceIte, Bo_0, Bo_1, ↓Bo_ok, i10, i01, eq_self, decide_true, decide_false, Bool.or_true, Bool.true_or, Bool.or_false, Bool.false_or, cond_true, cond_false, not_true_eq_false, not_false_eq_true, Bool.false_eq_true, and_self, and_true, true_and, and_false, false_and, nI_clamp, ↓inbc, inb_n, nI_pos, nI_1, j0, sh, g1, b8_62_72w]
              rfl
          · by_cases ha : anF L m n = mayS γ
            · have hAm := (hA' m).trans (decide_eq_true ha)
              have ha' : (anF L m n = mayS γ) = True := eq_true ha
              cases hw : fwF A m with
              | none =>
                rw [fw_t ⟨hAm, by rw [hw]; rfl⟩, skI, skI]
                simp (disch := omega) only [bnd, bnd0, ↓cdec, ↓cnot, ↓reduceIte, Bo_0, Bo_1, ↓Bo_ok, i10, i01, eq_self, decide_true, decide_false, Bool.or_true, Bool.true_or, Bool.or_false, Bool.false_or, cond_true, cond_false, not_true_eq_false, not_false_eq_true, Bool.false_eq_true, and_self, and_true, true_and, and_false, false_and, nI_clamp, ↓inbc, inb_n, nI_pos, nI_1, b8_62_121, b8_62_127, b8_62_143, b8_62_149, ha', l1]
              | some b =>
                have hb := fw_le m b hw
                have xb := m_onesN 9 J2 t1 t2 k sc (show m < 1024 by omega)
                have xb2 := m_onesN 9 J2 t1 t2 k sc (show b < 1024 by omega)
                have b1 := cnt_le 10 m
                have b2 := cnt_le 10 b
                by_cases hc : cntF 10 m < cntF 10 b
                · have hc' : nI (cntF 10 m) < nI (cntF 10 b) := nI_lt hc (by omega)
                  rw [fw_t ⟨hAm, by rw [hw]; exact decide_eq_true hc⟩, skI, skI]
                  simp (disch := omega) only [bnd, bnd0, ↓cdec, ↓cnot, ↓reduceIte, Bo_0, Bo_1, ↓Bo_ok, i10, i01, eq_self, decide_true, decide_false, Bool.or_true, Bool.true_or, Bool.or_false, Bool.false_or, cond_true, cond_false, not_true_eq_false, not_false_eq_true, Bool.false_eq_true, and_self, and_true, true_and, and_false, false_and, nI_clamp, ↓inbc, inb_n, nI_pos, nI_1, b8_62_121, b8_62_127, b8_62_131, b8_62_136, b8_62_140, b8_62_143, b8_62_149, ha', xb, xb2, hc']
                · have hc' : ¬ nI (cntF 10 m) < nI (cntF 10 b) := nI_nlt (by omega) (by omega)
                  rw [fw_f (fun z => hc (by have y := z.2; rw [hw] at y; exact of_decide_eq_true y)), hw, skI]
                  simp (disch := omega) only [bnd, bnd0, ↓cdec, ↓cnot, ↓reduceIte, Bo_0, Bo_1, ↓Bo_ok, i10, i01, eq_self, decide_true, decide_false, Bool.or_true, Bool.true_or, Bool.or_false, Bool.false_or, cond_true, cond_false, not_true_eq_false, not_false_eq_true, Bool.false_eq_true, and_self, and_true, true_and, and_false, false_and, nI_clamp, ↓inbc, inb_n, nI_pos, nI_1, b8_62_121, b8_62_127, b8_62_131, b8_62_136, b8_62_140, b8_62_148, b8_62_149, ha', xb, xb2, hc']
            · rw [fw_f (fun z => ha (of_decide_eq_true ((hA' m).symm.trans z.1)))]
              simp (disch := omega) only [bnd, bnd0, ↓cdec, ↓cnot, ↓reduceIte, Bo_0, Bo_1, ↓Bo_ok, i10, i01, eq_self, decide_true, decide_false, Bool.or_true, Bool.true_or, Bool.or_false, Bool.false_or, cond_true, cond_false, not_true_eq_false, not_false_eq_true, Bool.false_eq_true, and_self, and_true, true_and, and_false, false_and, nI_clamp, ↓inbc, inb_n, nI_pos, nI_1, b8_62_121, b8_62_148, b8_62_149, ha]) 0 none none (Nat.zero_le _) (Or.inl ⟨rfl, rfl⟩)
      have nl2 : ¬ nI (2 ^ n) < nI (2 ^ n) := nI_nlt (by omega) (by omega)
      refine ⟨J2, l, m, hlm, f2, Eq.trans ?_ (em.trans (Eq.trans ?_ (em2.trans ?_)))⟩
      · simp (disch := omega) only [bnd, bnd0, ↓cdec, ↓cnot, ↓reduceIte, Bo_0, Bo_1, ↓Bo_ok, i10, i01, eq_self, decide_true, decide_false, Bool.or_true, Bool.true_or, Bool.or_false, Bool.false_or, cond_true, cond_false, not_true_eq_false, not_false_eq_true, Bool.false_eq_true, and_self, and_true, true_and, and_false, false_and, nI_clamp, ↓inbc, inb_n, nI_pos, nI_1, b8_62_0, b8_62_9, b8_62_19, b8_62_23, m_in32, k64_1, k64_100, h1, m_maySet, mm]
        rfl
      · rw [b8_62_26]
        simp (disch := omega) only [bnd, bnd0, ↓cdec, ↓cnot, ↓reduceIte, Bo_0, Bo_1, ↓Bo_ok, i10, i01, eq_self, decide_true, decide_false, Bool.or_true, Bool.true_or, Bool.or_false, Bool.false_or, cond_true, cond_false, not_true_eq_false, not_false_eq_true, Bool.false_eq_true, and_self, and_true, true_and, and_false, false_and, nI_clamp, ↓inbc, inb_n, nI_pos, nI_1, j0, nl, b8_62_54]
        rfl
      · rcases hlm with ⟨rfl, rfl⟩ | ⟨y, z, rfl, rfl⟩
        · rw [b8_62_59]
          simp (disch := omega) only [bnd, bnd0, ↓cdec, ↓cnot, ↓reduceIte, Bo_0, Bo_1, ↓Bo_ok, i10, i01, eq_self, decide_true, decide_false, Bool.or_true, Bool.true_or, Bool.or_false, Bool.false_or, cond_true, cond_false, not_true_eq_false, not_false_eq_true, Bool.false_eq_true, and_self, and_true, true_and, and_false, false_and, nI_clamp, ↓inbc, inb_n, nI_pos, nI_1, j0, sh, nl2]
        · rw [b8_62_59w]
          simp (disch := omega) only [bnd, bnd0, ↓cdec, ↓cnot, ↓reduceIte, Bo_0, Bo_1, ↓Bo_ok, i10, i01, eq_self, decide_true, decide_false, Bool.or_true, Bool.true_or, Bool.or_false, Bool.false_or, cond_true, cond_false, not_true_eq_false, not_false_eq_true, Bool.false_eq_true, and_self, and_true, true_and, and_false, false_and, nI_clamp, ↓inbc, inb_n, nI_pos, nI_1, j0, sh, nl2]
    cases hw : fwF A (2 ^ n) with
    | some y =>
      have y9 := fw_le _ y hw
      obtain ⟨J2, l, m, hlm, f2, em⟩ := hm0 J1 (fun i => f1 _ _ _ (by omega))
      rw [hw, skI] at em hx0
      refine ⟨nI y, J1, J2, t1, t2, k, hx0.trans ?_, em.trans ?_, hI.garb (fun g j i hg => ?_), by omega⟩
      · rcases hlx with rfl | ⟨y, rfl⟩
        · simp (disch := omega) only [bnd, bnd0, ↓cdec, ↓cnot, ↓reduceIte, Bo_0, Bo_1, ↓Bo_ok, i10, i01, eq_self, decide_true, decide_false, Bool.or_true, Bool.true_or, Bool.or_false, Bool.false_or, cond_true, cond_false, not_true_eq_false, not_false_eq_true, Bool.false_eq_true, and_self, and_true, true_and, and_false, false_and, nI_clamp, ↓inbc, inb_n, nI_pos, nI_1, b7_25_133, b7_25_137, b7_25_147]
        · simp (disch := omega) only [bnd, bnd0, ↓cdec, ↓cnot, ↓reduceIte, Bo_0, Bo_1, ↓Bo_ok, i10, i01, eq_self, decide_true, decide_false, Bool.or_true, Bool.true_or, Bool.or_false, Bool.false_or, cond_true, cond_false, not_true_eq_false, not_false_eq_true, Bool.false_eq_true, and_self, and_true, true_and, and_false, false_and, nI_clamp, ↓inbc, inb_n, nI_pos, nI_1, b7_25_133w, b7_25_137w, b7_25_147w]
      · rcases hlm with ⟨rfl, rfl⟩ | ⟨y, z, rfl, rfl⟩
        · simp (disch := omega) only [bnd, bnd0, ↓cdec, ↓cnot, ↓reduceIte, Bo_0, Bo_1, ↓Bo_ok, i10, i01, eq_self, decide_true, decide_false, Bool.or_true, Bool.true_or, Bool.or_false, Bool.false_or, cond_true, cond_false, not_true_eq_false, not_false_eq_true, Bool.false_eq_true, and_self, and_true, true_and, and_false, false_and, nI_clamp, ↓inbc, inb_n, nI_pos, nI_1, b8_62_156, b8_62_169, b8_62_170]
        · simp (disch := omega) only [bnd, bnd0, ↓cdec, ↓cnot, ↓reduceIte, Bo_0, Bo_1, ↓Bo_ok, i10, i01, eq_self, decide_true, decide_false, Bool.or_true, Bool.true_or, Bool.or_false, Bool.false_or, cond_true, cond_false, not_true_eq_false, not_false_eq_true, Bool.false_eq_true, and_self, and_true, true_and, and_false, false_and, nI_clamp, ↓inbc, inb_n, nI_pos, nI_1, b8_62_156w, b8_62_169w, b8_62_170w]
      · unfold Gb at hg
        rw [f2 _ _ _ (by omega), f1 _ _ _ (by omega)]
    | none =>
      obtain ⟨J2, l, m, hlm, f2, em⟩ := hm0 (uI J1 0 47 3 (J1 0 47 3 + 1)) (fun i => by rw [uI_ne (by omega)]; exact f1 _ _ _ (by omega))
      rw [hw, skI] at em hx0
      refine ⟨-1000004, uI J1 0 47 3 (J1 0 47 3 + 1), uI J2 0 60 3 (J2 0 60 3 + 1), t1, t2, k, hx0.trans ?_, em.trans ?_, hI.findG (f := 3) (by omega) ?_ ?_, by omega⟩
      · rcases hlx with rfl | ⟨y, rfl⟩
        · simp (disch := omega) only [bnd, bnd0, ↓cdec, ↓cnot, ↓reduceIte, Bo_0, Bo_1, ↓Bo_ok, i10, i01, eq_self, decide_true, decide_false, Bool.or_true, Bool.true_or, Bool.or_false, Bool.false_or, cond_true, cond_false, not_true_eq_false, not_false_eq_true, Bool.false_eq_true, and_self, and_true, true_and, and_false, false_and, nI_clamp, ↓inbc, inb_n, nI_pos, nI_1, b7_25_133, b7_25_141, b7_25_147, l1, x_f3]
        · simp (disch := omega) only [bnd, bnd0, ↓cdec, ↓cnot, ↓reduceIte, Bo_0, Bo_1, ↓Bo_ok, i10, i01, eq_self, decide_true, decide_false, Bool.or_true, Bool.true_or, Bool.or_false, Bool.false_or, cond_true, cond_false, not_true_eq_false, not_false_eq_true, Bool.false_eq_true, and_self, and_true, true_and, and_false, false_and, nI_clamp, ↓inbc, inb_n, nI_pos, nI_1, b7_25_133w, b7_25_141w, b7_25_147w, l1, x_f3]
      · rcases hlm with ⟨rfl, rfl⟩ | ⟨y, z, rfl, rfl⟩
        · simp (disch := omega) only [bnd, bnd0, ↓cdec, ↓cnot, ↓reduceIte, Bo_0, Bo_1, ↓Bo_ok, i10, i01, eq_self, decide_true, decide_false, Bool.or_true, Bool.true_or, Bool.or_false, Bool.false_or, cond_true, cond_false, not_true_eq_false, not_false_eq_true, Bool.false_eq_true, and_self, and_true, true_and, and_false, false_and, nI_clamp, ↓inbc, inb_n, nI_pos, nI_1, b8_62_156, b8_62_160, b8_62_166, b8_62_170, l1, m_f3]
        · simp (disch := omega) only [bnd, bnd0, ↓cdec, ↓cnot, ↓reduceIte, Bo_0, Bo_1, ↓Bo_ok, i10, i01, eq_self, decide_true, decide_false, Bool.or_true, Bool.true_or, Bool.or_false, Bool.false_or, cond_true, cond_false, not_true_eq_false, not_false_eq_true, Bool.false_eq_true, and_self, and_true, true_and, and_false, false_and, nI_clamp, ↓inbc, inb_n, nI_pos, nI_1, b8_62_156w, b8_62_160w, b8_62_166w, b8_62_170w, l1, m_f3]
      · rw [f2 _ _ _ (by omega), uI_at (by omega), f1 _ _ _ (by omega)]
      · intro g j i hg hn
        unfold Gb at hg
        rw [f2 _ _ _ (by omega), uI_ne (by omega), f1 _ _ _ (by omega)]
  · refine ⟨-1000001, uI I 0 47 0 (I 0 47 0 + 1), uI (uI I 0 47 0 (I 0 47 0 + 1)) 0 60 0 ((uI I 0 47 0 (I 0 47 0 + 1)) 0 60 0 + 1), t1, t2, k, ?_, ?_, hI.find (f := 0) (by omega), by omega⟩
    · simp (disch := omega) only [bnd, bnd0, ↓cdec, ↓cnot, ↓reduceIte, Bo_0, Bo_1, ↓Bo_ok, i10, i01, eq_self, decide_true, decide_false, Bool.or_true, Bool.true_or, Bool.or_false, Bool.false_or, cond_true, cond_false, not_true_eq_false, not_false_eq_true, Bool.false_eq_true, and_self, and_true, true_and, and_false, false_and, nI_clamp, ↓inbc, inb_n, nI_pos, nI_1, b7_25_0, b7_25_7, b7_25_10, b7_25_16, x_within, k32_1, k32_100, h1, x_f0]
    · simp (disch := omega) only [bnd, bnd0, ↓cdec, ↓cnot, ↓reduceIte, Bo_0, Bo_1, ↓Bo_ok, i10, i01, eq_self, decide_true, decide_false, Bool.or_true, Bool.true_or, Bool.or_false, Bool.false_or, cond_true, cond_false, not_true_eq_false, not_false_eq_true, Bool.false_eq_true, and_self, and_true, true_and, and_false, false_and, nI_clamp, ↓inbc, inb_n, nI_pos, nI_1, b8_62_0, b8_62_9, b8_62_12, b8_62_18, m_in32, k64_1, k64_100, h1, m_f0]
