/-! ===== the relation: other cells, and lists that grow or shrink ===== -/
section RH2
variable {G : WG} {hp h h' : Hp} {A A' : AD} {M M' : MS}
theorem RH.k0 (hR : RH G hp A M h) (e2 : M'.2 = M.2) (e0 : M'.1 0 = M.1 0) (ek : M'.1 2 = M.1 2) (ew : M'.1 6 = M.1 6) (et : M'.1 11 = M.1 11) (el : M'.1 35 = M.1 35) (hcell : h' (A.1 0 0) = some (cBd G A M')) (hfr : ∀ q, q ≠ A.1 0 0 → h' q = h q) : RH G hp A M' h' := by
  have hlen : ∀ q, len M' q = len M q := fun q => by
    match q with
    | 0 => unfold len; rw [ek]
    | 1 => unfold len; rw [ew]
    | 2 => unfold len; rw [et]
    | 3 => unfold len; rw [el]
    | t + 4 => show nx (M'.2.1 21 t) = nx (M.2.1 21 t); rw [e2]
  have hvv : ∀ k' i', vld A M' k' i' → vld A M k' i' := by
    intro k' i' hv'
    have hk := vld_lt hv'
    rcases (by omega : k' = 0 ∨ k' = 1 ∨ k' = 2 ∨ k' = 3 ∨ k' = 4 ∨ k' = 5 ∨ k' = 6 ∨ k' = 7 ∨ k' = 8 ∨ k' = 9 ∨ k' = 10 ∨ k' = 11 ∨ k' = 12 ∨ k' = 13 ∨ k' = 14 ∨ k' = 15 ∨ k' = 16 ∨ k' = 17) with rfl | rfl | rfl | rfl | rfl | rfl | rfl | rfl | rfl | rfl | rfl | rfl | rfl | rfl | rfl | rfl | rfl | rfl
    · unfold vld at hv' ⊢; simpa only [e2, ek, ew, et, el] using hv'
    · unfold vld at hv' ⊢; simpa only [e2, ek, ew, et, el] using hv'
    · unfold vld at hv' ⊢; simpa only [e2, ek, ew, et, el] using hv'
    · unfold vld at hv' ⊢; simpa only [e2, ek, ew, et, el] using hv'
    · unfold vld at hv' ⊢; simpa only [e2, ek, ew, et, el] using hv'
    · unfold vld at hv' ⊢; simpa only [e2, ek, ew, et, el] using hv'
    · unfold vld at hv' ⊢; simpa only [e2, ek, ew, et, el] using hv'
    · unfold vld at hv' ⊢; simpa only [e2, ek, ew, et, el] using hv'
    · unfold vld at hv' ⊢; simpa only [e2, ek, ew, et, el] using hv'
    · unfold vld at hv' ⊢; simpa only [e2, ek, ew, et, el] using hv'
    · unfold vld at hv' ⊢; simpa only [e2, ek, ew, et, el] using hv'
    · unfold vld at hv' ⊢; simpa only [e2, ek, ew, et, el] using hv'
    · unfold vld at hv' ⊢; simpa only [e2, ek, ew, et, el] using hv'
    · unfold vld at hv' ⊢; simpa only [e2, ek, ew, et, el] using hv'
    · unfold vld at hv' ⊢; simpa only [e2, ek, ew, et, el] using hv'
    · unfold vld at hv' ⊢; simpa only [e2, ek, ew, et, el] using hv'
    · unfold vld at hv' ⊢; simpa only [e2, ek, ew, et, el] using hv'
    · unfold vld at hv' ⊢; simpa only [e2, ek, ew, et, el] using hv'
  have hcc : ∀ k' i', vld A M k' i' → ¬ (k' = 0 ∧ i' = 0) → cc G A M' k' i' = cc G A M k' i' := by
    intro k' i' hv' hne
    have hk := vld_lt hv'
    rcases (by omega : k' = 0 ∨ k' = 1 ∨ k' = 2 ∨ k' = 3 ∨ k' = 4 ∨ k' = 5 ∨ k' = 6 ∨ k' = 7 ∨ k' = 8 ∨ k' = 9 ∨ k' = 10 ∨ k' = 11 ∨ k' = 12 ∨ k' = 13 ∨ k' = 14 ∨ k' = 15 ∨ k' = 16 ∨ k' = 17) with rfl | rfl | rfl | rfl | rfl | rfl | rfl | rfl | rfl | rfl | rfl | rfl | rfl | rfl | rfl | rfl | rfl | rfl
    · exact absurd ⟨rfl, hv'⟩ hne
    · show cLs G A M' i' = cLs G A M i'; simp only [cLs, e2, e0, hlen]
    · show cDt G A M' i' = cDt G A M i'; simp only [cDt, e2, e0, hlen]
    · show cKp G A M' i' = cKp G A M i'; simp only [cKp, e2, e0, hlen]
    · show cWk G A M' i' = cWk G A M i'; simp only [cWk, e2, e0, hlen]
    · show cMr G A M' i' = cMr G A M i'; simp only [cMr, e2, e0, hlen]
    · show cMm G A M' i' = cMm G A M i'; simp only [cMm, e2, e0, hlen]
    · show cTh G A M' i' = cTh G A M i'; simp only [cTh, tEx, lng, e2, e0, hlen]
    · show cGr G A M' i' = cGr G A M i'; simp only [cGr, e2, e0, hlen]
    · show cLt G A M' i' = cLt G A M i'; simp only [cLt, e2, e0, hlen]
    · show cQu G A M' i' = cQu G A M i'; simp only [cQu, e2, e0, hlen]
    · show cGo G A M' = cGo G A M; simp only [cGo, e2, e0, hlen]
    · show cGs G A M' i' = cGs G A M i'; simp only [cGs, e2, e0, hlen]
    · show cWo G A M' = cWo G A M; simp only [cWo, e2, e0, hlen]
    · show cWs G A M' i' = cWs G A M i'; simp only [cWs, e2, e0, hlen]
    · show cTo G A M' = cTo G A M; simp only [cTo, e2, e0, hlen]
    · show cTr G A M' i' = cTr G A M i'; simp only [cTr, e2, e0, hlen]
    · show cRw G A M' i' = cRw G A M i'; simp only [cRw, e2, e0, hlen]
  exact hR.upd (k := 0) (i := 0) rfl rfl rfl hvv hcell hfr hcc et hlen (fun t ht hn => by rw [e2] at hn ⊢; rw [et] at ht; exact hR.2.2.2.2.2 t ht hn)
theorem RH.k10 (hR : RH G hp A M h) {t q : Nat} (hc : chg M M' [17] [] (8 * t + q)) (hv : vld A M 10 t) (hq : q < 8) (hcell : h' (A.1 10 t) = some (cc G A M' 10 t)) (hfr : ∀ z, z ≠ A.1 10 t → h' z = h z) : RH G hp A M' h' := by
  obtain ⟨c1, c2, c3⟩ := hc
  have hlen : ∀ q, len M' q = len M q := fun q => by
    match q with
    | 0 | 1 | 2 | 3 => unfold len; rw [c1]
    | t + 4 => show nx (M'.2.1 21 t) = nx (M.2.1 21 t); rw [c2 21 t (Or.inl (by decide))]
  have hvv : ∀ k' i', vld A M' k' i' → vld A M k' i' := by
    intro k' i' hv'
    have hk := vld_lt hv'
    rcases (by omega : k' = 0 ∨ k' = 1 ∨ k' = 2 ∨ k' = 3 ∨ k' = 4 ∨ k' = 5 ∨ k' = 6 ∨ k' = 7 ∨ k' = 8 ∨ k' = 9 ∨ k' = 10 ∨ k' = 11 ∨ k' = 12 ∨ k' = 13 ∨ k' = 14 ∨ k' = 15 ∨ k' = 16 ∨ k' = 17) with rfl | rfl | rfl | rfl | rfl | rfl | rfl | rfl | rfl | rfl | rfl | rfl | rfl | rfl | rfl | rfl | rfl | rfl
    · unfold vld at hv' ⊢; simpa only [c1] using hv'
    · unfold vld at hv' ⊢; simpa only [c1] using hv'
    · unfold vld at hv' ⊢; simpa only [c1] using hv'
    · unfold vld at hv' ⊢; simpa only [c1] using hv'
    · unfold vld at hv' ⊢; simpa only [c1] using hv'
    · unfold vld at hv' ⊢; simpa only [c1] using hv'
    · unfold vld at hv' ⊢; simpa only [c1] using hv'
    · unfold vld at hv' ⊢; simpa only [c1] using hv'
    · unfold vld at hv' ⊢; simpa only [c1, c2 21 _ (Or.inl (by decide : (21 : Nat) ∉ ([17] : List Nat)))] using hv'
    · unfold vld at hv' ⊢; simpa only [c1] using hv'
    · unfold vld at hv' ⊢; simpa only [c1, c2 12 _ (Or.inl (by decide : (12 : Nat) ∉ ([17] : List Nat)))] using hv'
    · unfold vld at hv' ⊢; simpa only [c1] using hv'
    · unfold vld at hv' ⊢; simpa only [c1] using hv'
    · unfold vld at hv' ⊢; simpa only [c1] using hv'
    · unfold vld at hv' ⊢; simpa only [c1] using hv'
    · unfold vld at hv' ⊢; simpa only [c1] using hv'
    · unfold vld at hv' ⊢; simpa only [c1] using hv'
    · unfold vld at hv' ⊢; simpa only [c1, c2 54 _ (Or.inl (by decide : (54 : Nat) ∉ ([17] : List Nat)))] using hv'
  have hcc : ∀ k' i', vld A M k' i' → ¬ (k' = 10 ∧ i' = t) → cc G A M' k' i' = cc G A M k' i' := by
    intro k' i' hv' hne
    have hk := vld_lt hv'
    rcases (by omega : k' = 0 ∨ k' = 1 ∨ k' = 2 ∨ k' = 3 ∨ k' = 4 ∨ k' = 5 ∨ k' = 6 ∨ k' = 7 ∨ k' = 8 ∨ k' = 9 ∨ k' = 10 ∨ k' = 11 ∨ k' = 12 ∨ k' = 13 ∨ k' = 14 ∨ k' = 15 ∨ k' = 16 ∨ k' = 17) with rfl | rfl | rfl | rfl | rfl | rfl | rfl | rfl | rfl | rfl | rfl | rfl | rfl | rfl | rfl | rfl | rfl | rfl
    · show cBd G A M' = cBd G A M; simp only [cBd, c1]
    · show cLs G A M' i' = cLs G A M i'; simp only [cLs, c1, hlen]
    · show cDt G A M' i' = cDt G A M i'; simp only [cDt, c1, hlen]
    · show cKp G A M' i' = cKp G A M i'; simp only [cKp, c1, c2 3 i' (Or.inl (by decide)), c2 4 i' (Or.inl (by decide)), c2 5 i' (Or.inl (by decide))]
    · show cWk G A M' i' = cWk G A M i'; simp only [cWk, c1, c2 7 i' (Or.inl (by decide)), c2 8 i' (Or.inl (by decide)), c2 9 i' (Or.inl (by decide)), c2 10 i' (Or.inl (by decide))]
    · show cMr G A M' i' = cMr G A M i'; simp only [cMr, c1]
    · show cMm G A M' i' = cMm G A M i'; simp only [cMm, c1, c2 29 i' (Or.inl (by decide)), c2 30 i' (Or.inl (by decide)), c2 31 i' (Or.inl (by decide)), c2 32 i' (Or.inl (by decide)), c3 33 i' (Or.inl (by decide)), c3 34 i' (Or.inl (by decide))]
    · show cTh G A M' i' = cTh G A M i'; simp only [cTh, tEx, lng, c1, c2 12 i' (Or.inl (by decide)), c2 13 i' (Or.inl (by decide)), c2 14 i' (Or.inl (by decide)), c2 15 i' (Or.inl (by decide)), c2 16 i' (Or.inl (by decide)), c2 20 i' (Or.inl (by decide)), c3 18 i' (Or.inl (by decide))]
    · show cGr G A M' i' = cGr G A M i'; simp only [cGr, c1, c2 22 i' (Or.inl (by decide)), c2 23 i' (Or.inl (by decide)), c2 24 i' (Or.inl (by decide)), c3 25 i' (Or.inl (by decide)), c3 26 i' (Or.inl (by decide))]
    · show cLt G A M' i' = cLt G A M i'; simp only [cLt, c1, c2 36 i' (Or.inl (by decide)), c2 37 i' (Or.inl (by decide)), c2 38 i' (Or.inl (by decide)), c2 39 i' (Or.inl (by decide)), c2 40 i' (Or.inl (by decide)), c2 41 i' (Or.inl (by decide)), c2 42 i' (Or.inl (by decide)), c2 43 i' (Or.inl (by decide)), c3 44 i' (Or.inl (by decide)), c3 45 i' (Or.inl (by decide))]
    · show cQu G A M' i' = cQu G A M i'; unfold cQu; refine congrArg (aI 8) (funext fun z => ?_); by_cases hz : z < 8; (rw [if_pos hz, if_pos hz]; exact c2 17 _ (Or.inr (fun e => hne ⟨rfl, by omega⟩))); (rw [if_neg hz, if_neg hz])
    · show cGo G A M' = cGo G A M; simp only [cGo, c1]
    · show cGs G A M' i' = cGs G A M i'; simp only [cGs, c1, show ∀ q, M'.2.2 47 q = M.2.2 47 q from fun q => c3 47 q (Or.inl (by decide))]
    · show cWo G A M' = cWo G A M; simp only [cWo, c1]
    · show cWs G A M' i' = cWs G A M i'; simp only [cWs, c1, show ∀ q, M'.2.2 48 q = M.2.2 48 q from fun q => c3 48 q (Or.inl (by decide))]
    · show cTo G A M' = cTo G A M; simp only [cTo, c1]
    · show cTr G A M' i' = cTr G A M i'; simp only [cTr, c1, c2 54 i' (Or.inl (by decide)), c2 55 i' (Or.inl (by decide))]
    · show cRw G A M' i' = cRw G A M i'; simp only [cRw, c1, c2 54 i' (Or.inl (by decide)), c2 56 i' (Or.inl (by decide)), show ∀ q, M'.2.2 57 q = M.2.2 57 q from fun q => c3 57 q (Or.inl (by decide))]
  exact hR.upd (k := 10) (i := t) hv rfl rfl hvv hcell hfr hcc (by rw [c1]) hlen (fun t ht hn => by rw [c2 20 t (Or.inl (by decide))] at hn; rw [c1] at ht; rw [c3 19 t (Or.inl (by decide))]; exact hR.2.2.2.2.2 t ht hn)
theorem RH.k12 (hR : RH G hp A M h) {t q : Nat} (hc : chg M M' [] [47] (20 * t + q)) (hv : vld A M 12 t) (hq : q < 20) (hcell : h' (A.1 12 t) = some (cc G A M' 12 t)) (hfr : ∀ z, z ≠ A.1 12 t → h' z = h z) : RH G hp A M' h' := by
  obtain ⟨c1, c2, c3⟩ := hc
  have hlen : ∀ q, len M' q = len M q := fun q => by
    match q with
    | 0 | 1 | 2 | 3 => unfold len; rw [c1]
    | t + 4 => show nx (M'.2.1 21 t) = nx (M.2.1 21 t); rw [c2 21 t (Or.inl (by decide))]
  have hvv : ∀ k' i', vld A M' k' i' → vld A M k' i' := by
    intro k' i' hv'
    have hk := vld_lt hv'
    rcases (by omega : k' = 0 ∨ k' = 1 ∨ k' = 2 ∨ k' = 3 ∨ k' = 4 ∨ k' = 5 ∨ k' = 6 ∨ k' = 7 ∨ k' = 8 ∨ k' = 9 ∨ k' = 10 ∨ k' = 11 ∨ k' = 12 ∨ k' = 13 ∨ k' = 14 ∨ k' = 15 ∨ k' = 16 ∨ k' = 17) with rfl | rfl | rfl | rfl | rfl | rfl | rfl | rfl | rfl | rfl | rfl | rfl | rfl | rfl | rfl | rfl | rfl | rfl
    · unfold vld at hv' ⊢; simpa only [c1] using hv'
    · unfold vld at hv' ⊢; simpa only [c1] using hv'
    · unfold vld at hv' ⊢; simpa only [c1] using hv'
    · unfold vld at hv' ⊢; simpa only [c1] using hv'
    · unfold vld at hv' ⊢; simpa only [c1] using hv'
    · unfold vld at hv' ⊢; simpa only [c1] using hv'
    · unfold vld at hv' ⊢; simpa only [c1] using hv'
    · unfold vld at hv' ⊢; simpa only [c1] using hv'
    · unfold vld at hv' ⊢; simpa only [c1, c2 21 _ (Or.inl (by decide : (21 : Nat) ∉ ([] : List Nat)))] using hv'
    · unfold vld at hv' ⊢; simpa only [c1] using hv'
    · unfold vld at hv' ⊢; simpa only [c1, c2 12 _ (Or.inl (by decide : (12 : Nat) ∉ ([] : List Nat)))] using hv'
    · unfold vld at hv' ⊢; simpa only [c1] using hv'
    · unfold vld at hv' ⊢; simpa only [c1] using hv'
    · unfold vld at hv' ⊢; simpa only [c1] using hv'
    · unfold vld at hv' ⊢; simpa only [c1] using hv'
    · unfold vld at hv' ⊢; simpa only [c1] using hv'
    · unfold vld at hv' ⊢; simpa only [c1] using hv'
    · unfold vld at hv' ⊢; simpa only [c1, c2 54 _ (Or.inl (by decide : (54 : Nat) ∉ ([] : List Nat)))] using hv'
  have hcc : ∀ k' i', vld A M k' i' → ¬ (k' = 12 ∧ i' = t) → cc G A M' k' i' = cc G A M k' i' := by
    intro k' i' hv' hne
    have hk := vld_lt hv'
    rcases (by omega : k' = 0 ∨ k' = 1 ∨ k' = 2 ∨ k' = 3 ∨ k' = 4 ∨ k' = 5 ∨ k' = 6 ∨ k' = 7 ∨ k' = 8 ∨ k' = 9 ∨ k' = 10 ∨ k' = 11 ∨ k' = 12 ∨ k' = 13 ∨ k' = 14 ∨ k' = 15 ∨ k' = 16 ∨ k' = 17) with rfl | rfl | rfl | rfl | rfl | rfl | rfl | rfl | rfl | rfl | rfl | rfl | rfl | rfl | rfl | rfl | rfl | rfl
    · show cBd G A M' = cBd G A M; simp only [cBd, c1]
    · show cLs G A M' i' = cLs G A M i'; simp only [cLs, c1, hlen]
    · show cDt G A M' i' = cDt G A M i'; simp only [cDt, c1, hlen]
    · show cKp G A M' i' = cKp G A M i'; simp only [cKp, c1, c2 3 i' (Or.inl (by decide)), c2 4 i' (Or.inl (by decide)), c2 5 i' (Or.inl (by decide))]
    · show cWk G A M' i' = cWk G A M i'; simp only [cWk, c1, c2 7 i' (Or.inl (by decide)), c2 8 i' (Or.inl (by decide)), c2 9 i' (Or.inl (by decide)), c2 10 i' (Or.inl (by decide))]
    · show cMr G A M' i' = cMr G A M i'; simp only [cMr, c1]
    · show cMm G A M' i' = cMm G A M i'; simp only [cMm, c1, c2 29 i' (Or.inl (by decide)), c2 30 i' (Or.inl (by decide)), c2 31 i' (Or.inl (by decide)), c2 32 i' (Or.inl (by decide)), c3 33 i' (Or.inl (by decide)), c3 34 i' (Or.inl (by decide))]
    · show cTh G A M' i' = cTh G A M i'; simp only [cTh, tEx, lng, c1, c2 12 i' (Or.inl (by decide)), c2 13 i' (Or.inl (by decide)), c2 14 i' (Or.inl (by decide)), c2 15 i' (Or.inl (by decide)), c2 16 i' (Or.inl (by decide)), c2 20 i' (Or.inl (by decide)), c3 18 i' (Or.inl (by decide))]
    · show cGr G A M' i' = cGr G A M i'; simp only [cGr, c1, c2 22 i' (Or.inl (by decide)), c2 23 i' (Or.inl (by decide)), c2 24 i' (Or.inl (by decide)), c3 25 i' (Or.inl (by decide)), c3 26 i' (Or.inl (by decide))]
    · show cLt G A M' i' = cLt G A M i'; simp only [cLt, c1, c2 36 i' (Or.inl (by decide)), c2 37 i' (Or.inl (by decide)), c2 38 i' (Or.inl (by decide)), c2 39 i' (Or.inl (by decide)), c2 40 i' (Or.inl (by decide)), c2 41 i' (Or.inl (by decide)), c2 42 i' (Or.inl (by decide)), c2 43 i' (Or.inl (by decide)), c3 44 i' (Or.inl (by decide)), c3 45 i' (Or.inl (by decide))]
    · show cQu G A M' i' = cQu G A M i'; simp only [cQu, c1, show ∀ q, M'.2.1 17 q = M.2.1 17 q from fun q => c2 17 q (Or.inl (by decide))]
    · show cGo G A M' = cGo G A M; simp only [cGo, c1]
    · show cGs G A M' i' = cGs G A M i'; unfold cGs; refine congrArg (aJ 20) (funext fun z => ?_); by_cases hz : z < 20; (rw [if_pos hz, if_pos hz]; exact c3 47 _ (Or.inr (fun e => hne ⟨rfl, by omega⟩))); (rw [if_neg hz, if_neg hz])
    · show cWo G A M' = cWo G A M; simp only [cWo, c1]
    · show cWs G A M' i' = cWs G A M i'; simp only [cWs, c1, show ∀ q, M'.2.2 48 q = M.2.2 48 q from fun q => c3 48 q (Or.inl (by decide))]
    · show cTo G A M' = cTo G A M; simp only [cTo, c1]
    · show cTr G A M' i' = cTr G A M i'; simp only [cTr, c1, c2 54 i' (Or.inl (by decide)), c2 55 i' (Or.inl (by decide))]
    · show cRw G A M' i' = cRw G A M i'; simp only [cRw, c1, c2 54 i' (Or.inl (by decide)), c2 56 i' (Or.inl (by decide)), show ∀ q, M'.2.2 57 q = M.2.2 57 q from fun q => c3 57 q (Or.inl (by decide))]
  exact hR.upd (k := 12) (i := t) hv rfl rfl hvv hcell hfr hcc (by rw [c1]) hlen (fun t ht hn => by rw [c2 20 t (Or.inl (by decide))] at hn; rw [c1] at ht; rw [c3 19 t (Or.inl (by decide))]; exact hR.2.2.2.2.2 t ht hn)
theorem RH.k14 (hR : RH G hp A M h) {t q : Nat} (hc : chg M M' [] [48] (20 * t + q)) (hv : vld A M 14 t) (hq : q < 20) (hcell : h' (A.1 14 t) = some (cc G A M' 14 t)) (hfr : ∀ z, z ≠ A.1 14 t → h' z = h z) : RH G hp A M' h' := by
  obtain ⟨c1, c2, c3⟩ := hc
  have hlen : ∀ q, len M' q = len M q := fun q => by
    match q with
    | 0 | 1 | 2 | 3 => unfold len; rw [c1]
    | t + 4 => show nx (M'.2.1 21 t) = nx (M.2.1 21 t); rw [c2 21 t (Or.inl (by decide))]
  have hvv : ∀ k' i', vld A M' k' i' → vld A M k' i' := by
    intro k' i' hv'
    have hk := vld_lt hv'
    rcases (by omega : k' = 0 ∨ k' = 1 ∨ k' = 2 ∨ k' = 3 ∨ k' = 4 ∨ k' = 5 ∨ k' = 6 ∨ k' = 7 ∨ k' = 8 ∨ k' = 9 ∨ k' = 10 ∨ k' = 11 ∨ k' = 12 ∨ k' = 13 ∨ k' = 14 ∨ k' = 15 ∨ k' = 16 ∨ k' = 17) with rfl | rfl | rfl | rfl | rfl | rfl | rfl | rfl | rfl | rfl | rfl | rfl | rfl | rfl | rfl | rfl | rfl | rfl
    · unfold vld at hv' ⊢; simpa only [c1] using hv'
    · unfold vld at hv' ⊢; simpa only [c1] using hv'
    · unfold vld at hv' ⊢; simpa only [c1] using hv'
    · unfold vld at hv' ⊢; simpa only [c1] using hv'
    · unfold vld at hv' ⊢; simpa only [c1] using hv'
    · unfold vld at hv' ⊢; simpa only [c1] using hv'
    · unfold vld at hv' ⊢; simpa only [c1] using hv'
    · unfold vld at hv' ⊢; simpa only [c1] using hv'
    · unfold vld at hv' ⊢; simpa only [c1, c2 21 _ (Or.inl (by decide : (21 : Nat) ∉ ([] : List Nat)))] using hv'
    · unfold vld at hv' ⊢; simpa only [c1] using hv'
    · unfold vld at hv' ⊢; simpa only [c1, c2 12 _ (Or.inl (by decide : (12 : Nat) ∉ ([] : List Nat)))] using hv'
    · unfold vld at hv' ⊢; simpa only [c1] using hv'
    · unfold vld at hv' ⊢; simpa only [c1] using hv'
    · unfold vld at hv' ⊢; simpa only [c1] using hv'
    · unfold vld at hv' ⊢; simpa only [c1] using hv'
    · unfold vld at hv' ⊢; simpa only [c1] using hv'
    · unfold vld at hv' ⊢; simpa only [c1] using hv'
    · unfold vld at hv' ⊢; simpa only [c1, c2 54 _ (Or.inl (by decide : (54 : Nat) ∉ ([] : List Nat)))] using hv'
  have hcc : ∀ k' i', vld A M k' i' → ¬ (k' = 14 ∧ i' = t) → cc G A M' k' i' = cc G A M k' i' := by
    intro k' i' hv' hne
    have hk := vld_lt hv'
    rcases (by omega : k' = 0 ∨ k' = 1 ∨ k' = 2 ∨ k' = 3 ∨ k' = 4 ∨ k' = 5 ∨ k' = 6 ∨ k' = 7 ∨ k' = 8 ∨ k' = 9 ∨ k' = 10 ∨ k' = 11 ∨ k' = 12 ∨ k' = 13 ∨ k' = 14 ∨ k' = 15 ∨ k' = 16 ∨ k' = 17) with rfl | rfl | rfl | rfl | rfl | rfl | rfl | rfl | rfl | rfl | rfl | rfl | rfl | rfl | rfl | rfl | rfl | rfl
    · show cBd G A M' = cBd G A M; simp only [cBd, c1]
    · show cLs G A M' i' = cLs G A M i'; simp only [cLs, c1, hlen]
    · show cDt G A M' i' = cDt G A M i'; simp only [cDt, c1, hlen]
    · show cKp G A M' i' = cKp G A M i'; simp only [cKp, c1, c2 3 i' (Or.inl (by decide)), c2 4 i' (Or.inl (by decide)), c2 5 i' (Or.inl (by decide))]
    · show cWk G A M' i' = cWk G A M i'; simp only [cWk, c1, c2 7 i' (Or.inl (by decide)), c2 8 i' (Or.inl (by decide)), c2 9 i' (Or.inl (by decide)), c2 10 i' (Or.inl (by decide))]
    · show cMr G A M' i' = cMr G A M i'; simp only [cMr, c1]
    · show cMm G A M' i' = cMm G A M i'; simp only [cMm, c1, c2 29 i' (Or.inl (by decide)), c2 30 i' (Or.inl (by decide)), c2 31 i' (Or.inl (by decide)), c2 32 i' (Or.inl (by decide)), c3 33 i' (Or.inl (by decide)), c3 34 i' (Or.inl (by decide))]
    · show cTh G A M' i' = cTh G A M i'; simp only [cTh, tEx, lng, c1, c2 12 i' (Or.inl (by decide)), c2 13 i' (Or.inl (by decide)), c2 14 i' (Or.inl (by decide)), c2 15 i' (Or.inl (by decide)), c2 16 i' (Or.inl (by decide)), c2 20 i' (Or.inl (by decide)), c3 18 i' (Or.inl (by decide))]
    · show cGr G A M' i' = cGr G A M i'; simp only [cGr, c1, c2 22 i' (Or.inl (by decide)), c2 23 i' (Or.inl (by decide)), c2 24 i' (Or.inl (by decide)), c3 25 i' (Or.inl (by decide)), c3 26 i' (Or.inl (by decide))]
    · show cLt G A M' i' = cLt G A M i'; simp only [cLt, c1, c2 36 i' (Or.inl (by decide)), c2 37 i' (Or.inl (by decide)), c2 38 i' (Or.inl (by decide)), c2 39 i' (Or.inl (by decide)), c2 40 i' (Or.inl (by decide)), c2 41 i' (Or.inl (by decide)), c2 42 i' (Or.inl (by decide)), c2 43 i' (Or.inl (by decide)), c3 44 i' (Or.inl (by decide)), c3 45 i' (Or.inl (by decide))]
    · show cQu G A M' i' = cQu G A M i'; simp only [cQu, c1, show ∀ q, M'.2.1 17 q = M.2.1 17 q from fun q => c2 17 q (Or.inl (by decide))]
    · show cGo G A M' = cGo G A M; simp only [cGo, c1]
    · show cGs G A M' i' = cGs G A M i'; simp only [cGs, c1, show ∀ q, M'.2.2 47 q = M.2.2 47 q from fun q => c3 47 q (Or.inl (by decide))]
    · show cWo G A M' = cWo G A M; simp only [cWo, c1]
    · show cWs G A M' i' = cWs G A M i'; unfold cWs; refine congrArg (aJ 20) (funext fun z => ?_); by_cases hz : z < 20; (rw [if_pos hz, if_pos hz]; exact c3 48 _ (Or.inr (fun e => hne ⟨rfl, by omega⟩))); (rw [if_neg hz, if_neg hz])
    · show cTo G A M' = cTo G A M; simp only [cTo, c1]
    · show cTr G A M' i' = cTr G A M i'; simp only [cTr, c1, c2 54 i' (Or.inl (by decide)), c2 55 i' (Or.inl (by decide))]
    · show cRw G A M' i' = cRw G A M i'; simp only [cRw, c1, c2 54 i' (Or.inl (by decide)), c2 56 i' (Or.inl (by decide)), show ∀ q, M'.2.2 57 q = M.2.2 57 q from fun q => c3 57 q (Or.inl (by decide))]
  exact hR.upd (k := 14) (i := t) hv rfl rfl hvv hcell hfr hcc (by rw [c1]) hlen (fun t ht hn => by rw [c2 20 t (Or.inl (by decide))] at hn; rw [c1] at ht; rw [c3 19 t (Or.inl (by decide))]; exact hR.2.2.2.2.2 t ht hn)
/-- what the state says so that every reference in a cell is a place of the book -/
def tidy (M : MS) : Prop := (∀ t, t < nx (M.1 11) → nx (M.2.1 21 t) ≤ 20) ∧ ∀ y, y < 6 → (M.2.1 54 y = 1 → nx (M.2.1 55 y) < nx (M.1 11)) ∧ (M.2.1 54 y = 2 → nx (M.2.1 55 y) < nx (M.1 35))
theorem lstF_congr {n : Nat} {e e' : Nat → Nat} (h : ∀ i, i < n → e' i = e i) : lstF n e' = lstF n e := by
  funext i
  unfold lstF
  by_cases hi : i < n
  · simp [hi, h i hi]
  · simp [hi]
theorem ccA (hT : tidy M) (ll : Nat) (hA : ∀ k i, vld A M k i → ¬ (k = 2 ∧ i = ll) → A'.1 k i = A.1 k i) (hcap : ∀ i, i ≠ ll → i < 4 + nx (M.1 11) → A'.2.1 i = A.2.1 i ∧ A'.2.2.1 i = A.2.2.1 i) (hce : ∀ t, t < nx (M.1 11) → A'.2.2.2 t = A.2.2.2 t) :
    ∀ k' i', vld A M k' i' → ¬ (k' = 1 ∧ i' = ll) → ¬ (k' = 2 ∧ i' = ll) → cc G A' M k' i' = cc G A M k' i' := by
  intro k' i' hv' hn1 hn2
  have hk := vld_lt hv'
  have el : ∀ q, q < 4 + nx (M.1 11) → lstF (len M q) (elt A' q) = lstF (len M q) (elt A q) := fun q hq => by
    match q with
    | 0 => exact lstF_congr fun i hi => hA 3 i hi (fun z => by omega)
    | 1 => exact lstF_congr fun i hi => hA 4 i hi (fun z => by omega)
    | 2 => exact lstF_congr fun i hi => hA 7 i hi (fun z => by omega)
    | 3 => exact lstF_congr fun i hi => hA 9 i hi (fun z => by omega)
    | t + 4 => exact lstF_congr fun i hi => hA 8 (20 * t + i) (by
        have h20 := hT.1 t (by omega)
        have hi : i < nx (M.2.1 21 t) := hi
        show (20 * t + i) / 20 < _ ∧ (20 * t + i) % 20 < _
        rw [show (20 * t + i) / 20 = t by omega, show (20 * t + i) % 20 = i by omega]
        exact ⟨by omega, hi⟩) (fun z => by omega)
  rcases (by omega : k' = 0 ∨ k' = 1 ∨ k' = 2 ∨ k' = 3 ∨ k' = 4 ∨ k' = 5 ∨ k' = 6 ∨ k' = 7 ∨ k' = 8 ∨ k' = 9 ∨ k' = 10 ∨ k' = 11 ∨ k' = 12 ∨ k' = 13 ∨ k' = 14 ∨ k' = 15 ∨ k' = 16 ∨ k' = 17) with rfl | rfl | rfl | rfl | rfl | rfl | rfl | rfl | rfl | rfl | rfl | rfl | rfl | rfl | rfl | rfl | rfl | rfl
  · show cBd G A' M = cBd G A M
    unfold cBd
    rw [hA 1 0 (by show 0 < _; omega) (fun z => by omega), hA 1 1 (by show 1 < _; omega) (fun z => by omega), hA 1 2 (by show 2 < _; omega) (fun z => by omega), hA 1 3 (by show 3 < _; omega) (fun z => by omega), hA 11 0 rfl (fun z => by omega), hA 13 0 rfl (fun z => by omega), hA 15 0 rfl (fun z => by omega)]
  · have hi : i' ≠ ll := fun e => hn1 ⟨rfl, e⟩
    show cLs G A' M i' = cLs G A M i'
    unfold cLs
    rw [(hcap i' hi hv').1, (hcap i' hi hv').2]
    by_cases hz : A.2.1 i' = 0
    · rw [if_pos hz, if_pos hz]
    · rw [if_neg hz, if_neg hz, hA 2 i' ⟨hv', hz⟩ (fun z => hi z.2)]
  · have hi : i' ≠ ll := fun e => hn2 ⟨rfl, e⟩
    show cDt G A' M i' = cDt G A M i'
    unfold cDt
    rw [(hcap i' hi hv'.1).1, el i' hv'.1]
  · rfl
  · show cWk G A' M i' = cWk G A M i'
    unfold cWk
    rw [hA 5 i' hv' (fun z => by omega)]
  · show cMr G A' M i' = cMr G A M i'
    unfold cMr
    have hv' : i' < nx (M.1 6) := hv'
    exact congrArg (aR 4 20) (lstF_congr fun t ht => hA 6 (20 * i' + t) (by show 20 * i' + t < 20 * _; omega) (fun z => by omega))
  · rfl
  · show cTh G A' M i' = cTh G A M i'
    have hv' : i' < nx (M.1 11) := hv'
    unfold cTh
    rw [hA 1 (i' + 4) (by show i' + 4 < 4 + _; omega) (fun z => by omega)]
    have eE : tEx A' M i' = tEx A M i' := by
      unfold tEx
      rw [hce i' hv']
      by_cases h4 : M.2.1 12 i' = 4
      · rw [hA 10 i' ⟨hv', h4⟩ (fun z => by omega)]
      · simp only [h4, if_false]
    rw [eE]
  · rfl
  · rfl
  · rfl
  · exact congrArg (aR 6 6) (lstF_congr fun s hs => hA 12 s hs (fun z => by omega))
  · rfl
  · exact congrArg (aR 6 6) (lstF_congr fun s hs => hA 14 s hs (fun z => by omega))
  · rfl
  · exact congrArg (aR 5 6) (lstF_congr fun s hs => hA 16 s hs (fun z => by omega))
  · show cTr G A' M i' = cTr G A M i'
    obtain ⟨t1, t2⟩ := hT.2 i' hv'
    have e1 : (if M.2.1 54 i' = 1 then (.ref (A'.1 7 (nx (M.2.1 55 i'))) : Value) else .null) = if M.2.1 54 i' = 1 then .ref (A.1 7 (nx (M.2.1 55 i'))) else .null := by
      by_cases z : M.2.1 54 i' = 1
      · rw [if_pos z, if_pos z, hA 7 _ (t1 z) (fun z => by omega)]
      · rw [if_neg z, if_neg z]
    have e2 : (if M.2.1 54 i' = 2 then (.ref (A'.1 9 (nx (M.2.1 55 i'))) : Value) else .null) = if M.2.1 54 i' = 2 then .ref (A.1 9 (nx (M.2.1 55 i'))) else .null := by
      by_cases z : M.2.1 54 i' = 2
      · rw [if_pos z, if_pos z, hA 9 _ (t2 z) (fun z => by omega)]
      · rw [if_neg z, if_neg z]
    have e3 : (if M.2.1 54 i' = 3 then (.ref (A'.1 17 i') : Value) else .null) = if M.2.1 54 i' = 3 then .ref (A.1 17 i') else .null := by
      by_cases z : M.2.1 54 i' = 3
      · rw [if_pos z, if_pos z, hA 17 i' ⟨hv', Or.inl z⟩ (fun z => by omega)]
      · rw [if_neg z, if_neg z]
    have e4 : (if M.2.1 54 i' = 4 then (.ref (A'.1 17 i') : Value) else .null) = if M.2.1 54 i' = 4 then .ref (A.1 17 i') else .null := by
      by_cases z : M.2.1 54 i' = 4
      · rw [if_pos z, if_pos z, hA 17 i' ⟨hv', Or.inr z⟩ (fun z => by omega)]
      · rw [if_neg z, if_neg z]
    unfold cTr
    rw [e1, e2, e3, e4]
  · rfl
/-- a list grows: new places of the book take cells that were protected -/
theorem RH.add {hp0 : Hp} (hR : RH G hp0 A M h) {ll b : Nat} (hl : ll < 4 + nx (M.1 11)) (New : Nat → Nat → Prop)
    (hb : (b = (if A.2.1 ll = 0 then gE G else A.1 2 ll) ∧ A.2.1 ll ≠ 0) ∨ h b = none)
    (hvv : ∀ k i, vld A' M' k i → (vld A M k i ∧ ¬ (k = 2 ∧ i = ll)) ∨ (k = 2 ∧ i = ll) ∨ New k i)
    (hA : ∀ k i, vld A M k i → ¬ (k = 2 ∧ i = ll) → A'.1 k i = A.1 k i) (hA2 : A'.1 2 ll = b)
    (hcc : ∀ k i, vld A M k i → ¬ (k = 1 ∧ i = ll) → ¬ (k = 2 ∧ i = ll) → cc G A' M' k i = cc G A M k i)
    (hnew : ∀ k i, New k i → hp0 (A'.1 k i) = some (cc G A' M' k i)) (hinj : ∀ k i k' i', New k i → New k' i' → A'.1 k i = A'.1 k' i' → k = k' ∧ i = i')
    (c1 : h' (A.1 1 ll) = some (cc G A' M' 1 ll)) (c2 : h' b = some (cc G A' M' 2 ll)) (hfr : ∀ q, q ≠ A.1 1 ll → q ≠ b → h' q = h q)
    (hhp : ∀ a e, hp a = some e → hp0 a = some e ∧ ∀ k i, New k i → A'.1 k i ≠ a) (hg : hp (gE G) = some e_nil)
    (hcap : ∀ i, i < 4 + nx (M'.1 11) → len M' i ≤ A'.2.1 i ∧ A'.2.1 i ≤ 600) (hce : ∀ t, t < nx (M'.1 11) → ¬ M'.2.1 20 t = 0 → A'.2.2.2 t = M'.2.2 19 t) : RH G hp A' M' h' := by
  obtain ⟨r1, r2, r3, r4, r5, r6⟩ := hR
  have v1 : vld A M 1 ll := hl
  have hb2 : ∀ k i, vld A M k i → ¬ (k = 2 ∧ i = ll) → A.1 k i ≠ b := by
    intro k i hv hne e
    rcases hb with ⟨z1, z2⟩ | z
    · rw [if_neg z2] at z1
      exact hne (r2 k i 2 ll hv ⟨hl, z2⟩ (by rw [e, z1]))
    · have := r1 k i hv; rw [e, z] at this; cases this
  have hbp : ∀ a e, hp0 a = some e → a ≠ b := by
    intro a e ha z
    rcases hb with ⟨z1, z2⟩ | z3
    · rw [if_neg z2] at z1
      exact (r3 a e ha).2 2 ll ⟨hl, z2⟩ (by rw [z, z1])
    · have := (r3 a e ha).1; rw [z, z3] at this; cases this
  have hn1 : ∀ k i, New k i → A'.1 k i ≠ A.1 1 ll := fun k i hn e => (r3 _ _ (hnew k i hn)).2 1 ll v1 e.symm
  have e11 : A'.1 1 ll = A.1 1 ll := hA 1 ll v1 (fun z => by omega)
  refine ⟨fun k i hv => ?_, fun k i k' i' hv hv' e => ?_, fun a e ha => ?_, hg, hcap, hce⟩
  · rcases hvv k i hv with ⟨z1, z2⟩ | ⟨rfl, rfl⟩ | z
    · by_cases hk1 : k = 1 ∧ i = ll
      · obtain ⟨rfl, rfl⟩ := hk1; rw [e11]; exact c1
      · rw [hA k i z1 z2, hfr _ (fun e => hk1 (r2 k i 1 ll z1 v1 e)) (hb2 k i z1 z2), r1 k i z1, hcc k i z1 hk1 z2]
    · rw [hA2]; exact c2
    · rw [hfr _ (hn1 k i z) (hbp _ _ (hnew k i z)), (r3 _ _ (hnew k i z)).1]
  · rcases hvv k i hv with ⟨z1, z2⟩ | ⟨rfl, rfl⟩ | z
    · rw [hA k i z1 z2] at e
      rcases hvv k' i' hv' with ⟨y1, y2⟩ | ⟨rfl, rfl⟩ | y
      · rw [hA k' i' y1 y2] at e; exact r2 k i k' i' z1 y1 e
      · rw [hA2] at e; exact absurd e (hb2 k i z1 z2)
      · exact absurd e ((r3 _ _ (hnew k' i' y)).2 k i z1)
    · rw [hA2] at e
      rcases hvv k' i' hv' with ⟨y1, y2⟩ | ⟨rfl, rfl⟩ | y
      · rw [hA k' i' y1 y2] at e; exact absurd e.symm (hb2 k' i' y1 y2)
      · exact ⟨rfl, rfl⟩
      · exact absurd e.symm (hbp _ _ (hnew k' i' y))
    · rcases hvv k' i' hv' with ⟨y1, y2⟩ | ⟨rfl, rfl⟩ | y
      · rw [hA k' i' y1 y2] at e; exact absurd e.symm ((r3 _ _ (hnew k i z)).2 k' i' y1)
      · rw [hA2] at e; exact absurd e (hbp _ _ (hnew k i z))
      · exact hinj k i k' i' z y e
  · obtain ⟨p1, p2⟩ := hhp a e ha
    obtain ⟨q1, q2⟩ := r3 a e p1
    refine ⟨by rw [hfr a (fun z => q2 1 ll v1 z.symm) (hbp a e p1)]; exact q1, fun k i hv => ?_⟩
    rcases hvv k i hv with ⟨z1, z2⟩ | ⟨rfl, rfl⟩ | z
    · rw [hA k i z1 z2]; exact q2 k i z1
    · rw [hA2]; exact fun z => hbp a e p1 z.symm
    · exact p2 k i z
end RH2
