/-- a finding, counted on both sides -/
theorem Inv.find {I : IFn} {t1 t2 : TFn} {k f : Nat} (hf : f < 7) (hI : Inv I t1 t2 k) : Inv (uI (uI I 0 47 f (I 0 47 f + 1)) 0 60 f ((uI I 0 47 f (I 0 47 f + 1)) 0 60 f + 1)) t1 t2 k := by
  obtain ⟨hT, ⟨n, b0, b1, b2, b3⟩, hS, hW, hK⟩ := hI
  refine ⟨fun i hi => ?_, ⟨n, b0, ?_, ?_, fun i hi => ?_⟩, fun s hs => ?_, ?_, ?_⟩
  · by_cases h : i = f
    · subst h
      rw [uI_nej (by omega), uI_eq, uI_eq, uI_nej (by omega), hT i hi]
    · rw [uI_nej (by omega), uI_nei h, uI_nei h, uI_nej (by omega)]
      exact hT i hi
  · rw [uI_nej (by omega), uI_nej (by omega)]; exact b1
  · rw [uI_nej (by omega), uI_nej (by omega)]; exact b2
  · rw [uI_nej (by omega), uI_nej (by omega), uI_nej (by omega), uI_nej (by omega)]; exact b3 i hi
  · exact (hS s hs).congr hs (fun j i _ _ => by rw [uI_nej (by omega), uI_nej (by omega)]) (fun j i _ _ => by rw [uI_nej (by omega), uI_nej (by omega)])
  · exact hW.congr TS_u2 (fun j i _ _ _ => by rw [uI_nej (by omega), uI_nej (by omega)]) (fun i _ => by rw [uI_nej (by omega), uI_nej (by omega)])
  · exact hK.congr TS_u2 (by rw [uI_nej (by omega), uI_nej (by omega)]) (by rw [uI_nej (by omega), uI_nej (by omega)]) (fun j i _ _ => by rw [uI_nej (by omega), uI_nej (by omega)]) (fun i _ => by rw [uI_nej (by omega), uI_nej (by omega)])
/-- seed -/
theorem ok_28 : op_28 Inv := by
  intro a1 I t1 t2 k sc hI
  obtain ⟨hT, ⟨n, b0, b1, b2, b3⟩, hS, ⟨m, m8, ⟨c1, c2, c3, c4, c5, c6⟩, hM, hQ, hTK⟩, hK⟩ := hI
  have e57 : (uI I 0 3 3 a1) 0 57 4 = I 0 3 3 := by rw [uI_nej (by omega), c6]
  refine ⟨I 0 3 3, uI I 0 3 3 a1, uI (uI I 0 3 3 a1) 0 57 4 a1, t1, t2, k, b7_29_0 10 a1 I t1 t2 k sc, ?_, ⟨?_, ⟨n, b0, ?_, ?_, fun i hi => ?_⟩, fun s hs => ?_, ⟨m, m8, ⟨?_, ?_, ?_, ?_, ?_, ?_⟩, fun p hp => ?_, fun q hq => ?_, hTK⟩, ?_⟩, by omega⟩
  · refine (b8_66_0 10 a1 _ t1 t2 k sc).trans ?_
    rw [e57]
  · exact hT.congr (fun i _ => by rw [uI_nej (by omega), uI_nej (by omega)]) (fun i _ => by rw [uI_nej (by omega), uI_nej (by omega)])
  · rw [uI_nej (by omega), uI_nej (by omega)]; exact b1
  · rw [uI_nej (by omega), uI_nej (by omega)]; exact b2
  · rw [uI_nej (by omega), uI_nej (by omega), uI_nej (by omega), uI_nej (by omega)]; exact b3 i hi
  · exact (hS s hs).congr hs (fun j i _ _ => by rw [uI_nej (by omega), uI_nej (by omega)]) (fun j i _ _ => by rw [uI_nej (by omega), uI_nej (by omega)])
  · rw [uI_nei (by omega), uI_nej (by omega)]; exact c1
  · rw [uI_nej (by omega), uI_nej (by omega)]; exact c2
  · rw [uI_nej (by omega), uI_nej (by omega), uI_nei (by omega), uI_nej (by omega)]; exact c3
  · rw [uI_nej (by omega), uI_nej (by omega), uI_nei (by omega), uI_nej (by omega)]; exact c4
  · rw [uI_nej (by omega), uI_nej (by omega), uI_nei (by omega), uI_nej (by omega)]; exact c5
  · rw [uI_nej (by omega), uI_eq, uI_eq]
  · exact (hM p hp).congr hp (fun j _ _ => by rw [uI_nej (by omega), uI_nej (by omega)]) (fun i _ _ => by rw [uI_nei (by omega), uI_nej (by omega)])
  · exact (hQ q hq).congr (by omega) TS_u2 (fun j _ _ => by rw [uI_nej (by omega), uI_nej (by omega)]) (fun i _ _ => by rw [uI_nei (by omega), uI_nej (by omega)])
  · exact hK.congr TS_u2 (by rw [uI_nej (by omega), uI_nej (by omega)]) (by rw [uI_nej (by omega), uI_nej (by omega)]) (fun j i _ _ => by rw [uI_nej (by omega), uI_nej (by omega)]) (fun i _ => by rw [uI_nej (by omega), uI_nej (by omega)])
