/-! the relation piece by piece; the first calls -/
theorem ToldOK.congr {I J : IFn} (h47 : ∀ i, i < 7 → J 0 47 i = I 0 47 i) (h60 : ∀ i, i < 7 → J 0 60 i = I 0 60 i) (v : ToldOK I) : ToldOK J := fun f hf => by rw [h47 f hf, h60 f hf]; exact v f hf
theorem SheetOK.congr {I J : IFn} {s : Nat} (hs4 : s < 4) (hs : ∀ j i, 48 ≤ j → j ≤ 55 → J 0 j i = I 0 j i) (h67 : ∀ j i, 67 ≤ j → j ≤ 69 → J 0 j i = I 0 j i) (v : SheetOK I s) : SheetOK J s := by
  obtain ⟨b, m, e0, e1, e2, e3, e4, e5, e6⟩ := v
  refine ⟨b, m, e0, e1, ?_, ?_, ?_, ?_, fun i hi => ?_⟩
  · rw [hs _ _ (by omega) (by omega)]; exact e2
  · rw [h67 _ _ (by omega) (by omega)]; exact e3
  · rw [hs _ _ (by omega) (by omega)]; exact e4
  · rw [h67 _ _ (by omega) (by omega)]; exact e5
  · rw [hs _ _ (by omega) (by omega), h67 _ _ (by omega) (by omega)]; exact e6 i hi
theorem KeptOK.congr {I J : IFn} {t2 : TFn} {k : Nat} (hT : TextsSame I J k) (h0 : J 0 0 7 = I 0 0 7) (h56 : J 0 56 4 = I 0 56 4) (hj : ∀ j i, 19 ≤ j → j ≤ 34 → J 0 j i = I 0 j i) (h58 : ∀ i, i < 465 → J 0 58 i = I 0 58 i) (v : KeptOK I t2 k) : KeptOK J t2 k := by
  rcases v with ⟨z1, z2⟩ | ⟨z1, z2, z3⟩
  · exact Or.inl ⟨by rw [h0]; exact z1, by rw [h56]; exact z2⟩
  · exact Or.inr ⟨by rw [h0]; exact z1, by rw [h56]; exact z2, z3.congr hT (fun j i q1 q2 _ => hj j i (by omega) (by omega)) h58⟩
theorem TS_u {I : IFn} {j i k : Nat} {v : Int32} : TextsSame I (uI I 0 j i v) k := fun e _ j' i' _ _ _ _ => by rw [uI_grp (by omega)]
theorem TS_u2 {I : IFn} {j i j2 i2 k : Nat} {v v2 : Int32} : TextsSame I (uI (uI I 0 j i v) 0 j2 i2 v2) k := fun e _ j' i' _ _ _ _ => by rw [uI_grp (by omega), uI_grp (by omega)]
/-- wipe -/
theorem ok_1 : op_1 Inv := by
  intro I t1 t2 k sc hI
  obtain ⟨hT, ⟨n, b0, b1, b2, b3⟩, hS, hW, hK⟩ := hI
  have e56 : (uI I 0 1 1 0) 0 56 8 = I 0 1 1 := by rw [uI_nej (by omega), b1, b2]
  refine ⟨I 0 1 1, uI I 0 1 1 0, uI (uI I 0 1 1 0) 0 56 8 0, t1, t2, k, b7_2_0 10 I t1 t2 k sc, ?_, ⟨?_, ?_, fun s hs => ?_, ?_, ?_⟩, by omega⟩
  · refine (b8_12_0 10 _ t1 t2 k sc).trans ?_
    rw [e56]
  · exact hT.congr (fun i _ => by rw [uI_nej (by omega), uI_nej (by omega)]) (fun i _ => by rw [uI_nej (by omega), uI_nej (by omega)])
  · exact ⟨0, by omega, by rw [uI_nej (by omega), uI_eq, nI_0], by rw [uI_eq, nI_0], fun i hi => by omega⟩
  · exact (hS s hs).congr hs (fun j i _ _ => by rw [uI_nej (by omega), uI_nej (by omega)]) (fun j i _ _ => by rw [uI_nej (by omega), uI_nej (by omega)])
  · exact hW.congr TS_u2 (fun j i _ _ _ => by rw [uI_nej (by omega), uI_nej (by omega)]) (fun i _ => by rw [uI_nej (by omega), uI_nej (by omega)])
  · exact hK.congr TS_u2 (by rw [uI_nej (by omega), uI_nej (by omega)]) (by rw [uI_nei (by omega), uI_nej (by omega)]) (fun j i _ _ => by rw [uI_nej (by omega), uI_nej (by omega)]) (fun i _ => by rw [uI_nej (by omega), uI_nej (by omega)])
/-- tear -/
theorem ok_38 : op_38 Inv := by
  intro I t1 t2 k sc hI
  obtain ⟨hT, hTp, hS, hW, hK⟩ := hI
  have e56 : (uI I 0 0 7 0) 0 56 4 = I 0 56 4 := by rw [uI_nej (by omega)]
  have fin : Inv (uI (uI I 0 0 7 0) 0 56 4 0) t1 t2 k := by
    obtain ⟨n, b0, b1, b2, b3⟩ := hTp
    refine ⟨?_, ⟨n, b0, ?_, ?_, fun i hi => ?_⟩, fun s hs => ?_, ?_, Or.inl ⟨?_, uI_eq _ _ _ _ _⟩⟩
    · exact hT.congr (fun i _ => by rw [uI_nej (by omega), uI_nej (by omega)]) (fun i _ => by rw [uI_nej (by omega), uI_nej (by omega)])
    · rw [uI_nej (by omega), uI_nej (by omega)]; exact b1
    · rw [uI_nei (by omega), uI_nej (by omega)]; exact b2
    · rw [uI_nej (by omega), uI_nej (by omega), uI_nej (by omega), uI_nej (by omega)]; exact b3 i hi
    · exact (hS s hs).congr hs (fun j i _ _ => by rw [uI_nej (by omega), uI_nej (by omega)]) (fun j i _ _ => by rw [uI_nej (by omega), uI_nej (by omega)])
    · exact hW.congr TS_u2 (fun j i _ _ _ => by rw [uI_nej (by omega), uI_nej (by omega)]) (fun i _ => by rw [uI_nej (by omega), uI_nej (by omega)])
    · rw [uI_nej (by omega), uI_eq]
  rcases hK with ⟨z1, z2⟩ | ⟨z1, z2, -⟩
  · refine ⟨0, uI I 0 0 7 0, uI (uI I 0 0 7 0) 0 56 4 0, t1, t2, k, ?_, ?_, fin, by omega⟩
    · show den (10, 7, 39, 0, [some (vr 0 0), none], [], mkH I t1 t2 k sc) = _
      rw [b7_39_0, cdec, if_pos z1, b7_39_11, b7_39_12]
    · show den (10, 8, 79, 0, [some (vr 0 56), none], [], mkH (uI I 0 0 7 0) t1 t2 k sc) = _
      rw [b8_79_0, cdec, if_pos (by rw [e56]; exact z2), b8_79_11, b8_79_12]
  · refine ⟨1, uI I 0 0 7 0, uI (uI I 0 0 7 0) 0 56 4 0, t1, t2, k, ?_, ?_, fin, by omega⟩
    · show den (10, 7, 39, 0, [some (vr 0 0), none], [], mkH I t1 t2 k sc) = _
      rw [b7_39_0, cdec, if_neg (by rw [z1]; decide), b7_39_7, b7_39_12]
    · show den (10, 8, 79, 0, [some (vr 0 56), none], [], mkH (uI I 0 0 7 0) t1 t2 k sc) = _
      rw [b8_79_0, cdec, if_neg (by rw [e56, z2]; decide), b8_79_7, b8_79_12]
