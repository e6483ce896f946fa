/-! ===== what a list may hold ===== -/
theorem cO_1 : canSt 3 1 := ⟨(RX0, TX0, 6), "java/lang/Object", rfl, rfl, Or.inr (tb7 (List.mem_of_getElem? (i := 98) rfl))⟩
theorem cO_2 : canSt 3 2 := ⟨(RX1, TX1, 5), "java/lang/Object", rfl, rfl, Or.inr (tb7 (List.mem_of_getElem? (i := 103) rfl))⟩
theorem cO_3 : canSt 3 3 := ⟨(RX2, TX2, 10), "java/lang/Object", rfl, rfl, Or.inr (tb7 (List.mem_of_getElem? (i := 102) rfl))⟩
theorem cO_4 : canSt 3 4 := ⟨(RX3, TX3, 6), "java/lang/Object", rfl, rfl, Or.inr (tb7 (List.mem_of_getElem? (i := 91) rfl))⟩
theorem cO_5 : canSt 3 5 := ⟨(RX4, TX4, 5), "java/lang/Object", rfl, rfl, Or.inr (tb7 (List.mem_of_getElem? (i := 101) rfl))⟩
theorem cO_6 : canSt 3 6 := ⟨(RX5, TX5, 3), "java/lang/Object", rfl, rfl, Or.inr (tb7 (List.mem_of_getElem? (i := 95) rfl))⟩
theorem cO_7 : canSt 3 7 := ⟨(RX6, TX6, 6), "java/lang/Object", rfl, rfl, Or.inr (tb7 (List.mem_of_getElem? (i := 99) rfl))⟩
theorem cO_8 : canSt 3 8 := ⟨(RX7, TX7, 5), "java/lang/Object", rfl, rfl, Or.inr (tb7 (List.mem_of_getElem? (i := 97) rfl))⟩
theorem cO_9 : canSt 3 9 := ⟨(RX8, TX8, 4), "java/lang/Object", rfl, rfl, Or.inr (tb7 (List.mem_of_getElem? (i := 90) rfl))⟩
theorem cO_10 : canSt 3 10 := ⟨(RX9, TX9, 9), "java/lang/Object", rfl, rfl, Or.inr (tb7 (List.mem_of_getElem? (i := 100) rfl))⟩
theorem cO_11 : canSt 3 11 := ⟨(RX10, TX10, 5), "java/lang/Object", rfl, rfl, Or.inr (tb7 (List.mem_of_getElem? (i := 96) rfl))⟩
theorem tci_lt (k : Int32) : tci k = 8 ∨ tci k = 1 ∨ tci k = 7 ∨ tci k = 10 ∨ tci k = 5 := by
  unfold tci
  split
  · exact Or.inl rfl
  · split
    · exact Or.inr (Or.inl rfl)
    · split
      · exact Or.inr (Or.inr (Or.inl rfl))
      · split
        · exact Or.inr (Or.inr (Or.inr (Or.inl rfl)))
        · exact Or.inr (Or.inr (Or.inr (Or.inr rfl)))
theorem canT (k : Int32) : canSt 3 (tci k) := by
  rcases tci_lt k with e | e | e | e | e <;> rw [e]
  · exact cO_8
  · exact cO_1
  · exact cO_7
  · exact cO_10
  · exact cO_5
/-! ===== the relation: what grows ===== -/
section RH3
variable {G : WG} {hp hp0 h h' : Hp} {A A' B : AD} {M M' : MS}
theorem ccM_K {j : Nat} (hs : ∀ f, f ≠ 2 → M'.1 f = M.1 f) (c2 : ∀ f i, f ∉ ([3, 4, 5] : List Nat) ∨ i ≠ j → M'.2.1 f i = M.2.1 f i) (c3 : ∀ f i, f ∉ ([] : List Nat) ∨ i ≠ j → M'.2.2 f i = M.2.2 f i) (hj : j = nx (M.1 2)) :
    ∀ k' i', vld B M k' i' → ¬ (k' = 1 ∧ i' = 0) → ¬ (k' = 2 ∧ i' = 0) → cc G A M' k' i' = cc G A M k' i' := by
  intro k' i' hv' hn1 hn2
  have hk := vld_lt hv'
  have hlen : ∀ q, q ≠ 0 → len M' q = len M q := fun q hq => by
    match q with
    | 0 => exact absurd rfl hq
    | 1 => show nx (M'.1 6) = nx (M.1 6); rw [hs 6 (by decide)]
    | 2 => show nx (M'.1 11) = nx (M.1 11); rw [hs 11 (by decide)]
    | 3 => show nx (M'.1 35) = nx (M.1 35); rw [hs 35 (by decide)]
    | t + 4 => show nx (M'.2.1 21 t) = nx (M.2.1 21 t); rw [c2 21 t (Or.inl (by decide))]
  rcases (by omega : k' = 0 ∨ k' = 1 ∨ k' = 2 ∨ k' = 3 ∨ k' = 4 ∨ k' = 5 ∨ k' = 6 ∨ k' = 7 ∨ k' = 8 ∨ k' = 9 ∨ k' = 10 ∨ k' = 11 ∨ k' = 12 ∨ k' = 13 ∨ k' = 14 ∨ k' = 15 ∨ k' = 16 ∨ k' = 17) with rfl | rfl | rfl | rfl | rfl | rfl | rfl | rfl | rfl | rfl | rfl | rfl | rfl | rfl | rfl | rfl | rfl | rfl
  · show cBd G A M' = cBd G A M; simp only [cBd, hs 0 (by decide), hs 46 (by decide), hs 1 (by decide), hs 27 (by decide), hs 28 (by decide), hs 49 (by decide), hs 50 (by decide), hs 51 (by decide), hs 52 (by decide), hs 53 (by decide), hs 58 (by decide)]
  · show cLs G A M' i' = cLs G A M i'; simp only [cLs, hlen i' (fun e => hn1 ⟨rfl, e⟩)]
  · show cDt G A M' i' = cDt G A M i'; simp only [cDt, hlen i' (fun e => hn2 ⟨rfl, e⟩)]
  · show cKp G A M' i' = cKp G A M i'; simp only [cKp, c2 3 i' (Or.inr (by have hv' : i' < nx (M.1 2) := hv'; omega)), c2 4 i' (Or.inr (by have hv' : i' < nx (M.1 2) := hv'; omega)), c2 5 i' (Or.inr (by have hv' : i' < nx (M.1 2) := hv'; omega))]
  · show cWk G A M' i' = cWk G A M i'; simp only [cWk, c2 7 i' (Or.inl (by decide)), c2 8 i' (Or.inl (by decide)), c2 9 i' (Or.inl (by decide)), c2 10 i' (Or.inl (by decide))]
  · show cMr G A M' i' = cMr G A M i'; rfl
  · show cMm G A M' i' = cMm G A M i'; simp only [cMm, c2 29 i' (Or.inl (by decide)), c2 30 i' (Or.inl (by decide)), c2 31 i' (Or.inl (by decide)), c2 32 i' (Or.inl (by decide)), c3 33 i' (Or.inl (by decide)), c3 34 i' (Or.inl (by decide))]
  · show cTh G A M' i' = cTh G A M i'; simp only [cTh, tEx, lng, c2 12 i' (Or.inl (by decide)), c2 13 i' (Or.inl (by decide)), c2 14 i' (Or.inl (by decide)), c2 15 i' (Or.inl (by decide)), c2 16 i' (Or.inl (by decide)), c2 20 i' (Or.inl (by decide)), c3 18 i' (Or.inl (by decide)), hs 0 (by decide)]
  · show cGr G A M' i' = cGr G A M i'; simp only [cGr, c2 22 i' (Or.inl (by decide)), c2 23 i' (Or.inl (by decide)), c2 24 i' (Or.inl (by decide)), c3 25 i' (Or.inl (by decide)), c3 26 i' (Or.inl (by decide))]
  · show cLt G A M' i' = cLt G A M i'; simp only [cLt, c2 36 i' (Or.inl (by decide)), c2 37 i' (Or.inl (by decide)), c2 38 i' (Or.inl (by decide)), c2 39 i' (Or.inl (by decide)), c2 40 i' (Or.inl (by decide)), c2 41 i' (Or.inl (by decide)), c2 42 i' (Or.inl (by decide)), c2 43 i' (Or.inl (by decide)), c3 44 i' (Or.inl (by decide)), c3 45 i' (Or.inl (by decide))]
  · show cQu G A M' i' = cQu G A M i'; simp only [cQu, show ∀ q, M'.2.1 17 q = M.2.1 17 q from fun q => c2 17 q (Or.inl (by decide))]
  · show cGo G A M' = cGo G A M; rfl
  · show cGs G A M' i' = cGs G A M i'; simp only [cGs, show ∀ q, M'.2.2 47 q = M.2.2 47 q from fun q => c3 47 q (Or.inl (by decide))]
  · show cWo G A M' = cWo G A M; rfl
  · show cWs G A M' i' = cWs G A M i'; simp only [cWs, show ∀ q, M'.2.2 48 q = M.2.2 48 q from fun q => c3 48 q (Or.inl (by decide))]
  · show cTo G A M' = cTo G A M; rfl
  · show cTr G A M' i' = cTr G A M i'; simp only [cTr, c2 54 i' (Or.inl (by decide)), c2 55 i' (Or.inl (by decide))]
  · show cRw G A M' i' = cRw G A M i'; simp only [cRw, c2 54 i' (Or.inl (by decide)), c2 56 i' (Or.inl (by decide)), show ∀ q, M'.2.2 57 q = M.2.2 57 q from fun q => c3 57 q (Or.inl (by decide))]
theorem ccM_W {j : Nat} (hs : ∀ f, f ≠ 6 → M'.1 f = M.1 f) (c2 : ∀ f i, f ∉ ([7, 8, 10] : List Nat) ∨ i ≠ j → M'.2.1 f i = M.2.1 f i) (c3 : ∀ f i, f ∉ ([] : List Nat) ∨ i ≠ j → M'.2.2 f i = M.2.2 f i) (hj : j = nx (M.1 6)) :
    ∀ k' i', vld B M k' i' → ¬ (k' = 1 ∧ i' = 1) → ¬ (k' = 2 ∧ i' = 1) → cc G A M' k' i' = cc G A M k' i' := by
  intro k' i' hv' hn1 hn2
  have hk := vld_lt hv'
  have hlen : ∀ q, q ≠ 1 → len M' q = len M q := fun q hq => by
    match q with
    | 0 => show nx (M'.1 2) = nx (M.1 2); rw [hs 2 (by decide)]
    | 1 => exact absurd rfl hq
    | 2 => show nx (M'.1 11) = nx (M.1 11); rw [hs 11 (by decide)]
    | 3 => show nx (M'.1 35) = nx (M.1 35); rw [hs 35 (by decide)]
    | t + 4 => show nx (M'.2.1 21 t) = nx (M.2.1 21 t); rw [c2 21 t (Or.inl (by decide))]
  rcases (by omega : k' = 0 ∨ k' = 1 ∨ k' = 2 ∨ k' = 3 ∨ k' = 4 ∨ k' = 5 ∨ k' = 6 ∨ k' = 7 ∨ k' = 8 ∨ k' = 9 ∨ k' = 10 ∨ k' = 11 ∨ k' = 12 ∨ k' = 13 ∨ k' = 14 ∨ k' = 15 ∨ k' = 16 ∨ k' = 17) with rfl | rfl | rfl | rfl | rfl | rfl | rfl | rfl | rfl | rfl | rfl | rfl | rfl | rfl | rfl | rfl | rfl | rfl
  · show cBd G A M' = cBd G A M; simp only [cBd, hs 0 (by decide), hs 46 (by decide), hs 1 (by decide), hs 27 (by decide), hs 28 (by decide), hs 49 (by decide), hs 50 (by decide), hs 51 (by decide), hs 52 (by decide), hs 53 (by decide), hs 58 (by decide)]
  · show cLs G A M' i' = cLs G A M i'; simp only [cLs, hlen i' (fun e => hn1 ⟨rfl, e⟩)]
  · show cDt G A M' i' = cDt G A M i'; simp only [cDt, hlen i' (fun e => hn2 ⟨rfl, e⟩)]
  · show cKp G A M' i' = cKp G A M i'; simp only [cKp, c2 3 i' (Or.inl (by decide)), c2 4 i' (Or.inl (by decide)), c2 5 i' (Or.inl (by decide))]
  · show cWk G A M' i' = cWk G A M i'; simp only [cWk, c2 7 i' (Or.inr (by have hv' : i' < nx (M.1 6) := hv'; omega)), c2 8 i' (Or.inr (by have hv' : i' < nx (M.1 6) := hv'; omega)), c2 9 i' (Or.inl (by decide)), c2 10 i' (Or.inr (by have hv' : i' < nx (M.1 6) := hv'; omega))]
  · show cMr G A M' i' = cMr G A M i'; rfl
  · show cMm G A M' i' = cMm G A M i'; simp only [cMm, c2 29 i' (Or.inl (by decide)), c2 30 i' (Or.inl (by decide)), c2 31 i' (Or.inl (by decide)), c2 32 i' (Or.inl (by decide)), c3 33 i' (Or.inl (by decide)), c3 34 i' (Or.inl (by decide))]
  · show cTh G A M' i' = cTh G A M i'; simp only [cTh, tEx, lng, c2 12 i' (Or.inl (by decide)), c2 13 i' (Or.inl (by decide)), c2 14 i' (Or.inl (by decide)), c2 15 i' (Or.inl (by decide)), c2 16 i' (Or.inl (by decide)), c2 20 i' (Or.inl (by decide)), c3 18 i' (Or.inl (by decide)), hs 0 (by decide)]
  · show cGr G A M' i' = cGr G A M i'; simp only [cGr, c2 22 i' (Or.inl (by decide)), c2 23 i' (Or.inl (by decide)), c2 24 i' (Or.inl (by decide)), c3 25 i' (Or.inl (by decide)), c3 26 i' (Or.inl (by decide))]
  · show cLt G A M' i' = cLt G A M i'; simp only [cLt, c2 36 i' (Or.inl (by decide)), c2 37 i' (Or.inl (by decide)), c2 38 i' (Or.inl (by decide)), c2 39 i' (Or.inl (by decide)), c2 40 i' (Or.inl (by decide)), c2 41 i' (Or.inl (by decide)), c2 42 i' (Or.inl (by decide)), c2 43 i' (Or.inl (by decide)), c3 44 i' (Or.inl (by decide)), c3 45 i' (Or.inl (by decide))]
  · show cQu G A M' i' = cQu G A M i'; simp only [cQu, show ∀ q, M'.2.1 17 q = M.2.1 17 q from fun q => c2 17 q (Or.inl (by decide))]
  · show cGo G A M' = cGo G A M; rfl
  · show cGs G A M' i' = cGs G A M i'; simp only [cGs, show ∀ q, M'.2.2 47 q = M.2.2 47 q from fun q => c3 47 q (Or.inl (by decide))]
  · show cWo G A M' = cWo G A M; rfl
  · show cWs G A M' i' = cWs G A M i'; simp only [cWs, show ∀ q, M'.2.2 48 q = M.2.2 48 q from fun q => c3 48 q (Or.inl (by decide))]
  · show cTo G A M' = cTo G A M; rfl
  · show cTr G A M' i' = cTr G A M i'; simp only [cTr, c2 54 i' (Or.inl (by decide)), c2 55 i' (Or.inl (by decide))]
  · show cRw G A M' i' = cRw G A M i'; simp only [cRw, c2 54 i' (Or.inl (by decide)), c2 56 i' (Or.inl (by decide)), show ∀ q, M'.2.2 57 q = M.2.2 57 q from fun q => c3 57 q (Or.inl (by decide))]
theorem ccM_N {j : Nat} (hs : ∀ f, f ≠ 11 → M'.1 f = M.1 f) (c2 : ∀ f i, f ∉ ([12, 13, 14, 15] : List Nat) ∨ i ≠ j → M'.2.1 f i = M.2.1 f i) (c3 : ∀ f i, f ∉ ([] : List Nat) ∨ i ≠ j → M'.2.2 f i = M.2.2 f i) (hj : j = nx (M.1 11)) :
    ∀ k' i', vld B M k' i' → ¬ (k' = 1 ∧ i' = 2) → ¬ (k' = 2 ∧ i' = 2) → cc G A M' k' i' = cc G A M k' i' := by
  intro k' i' hv' hn1 hn2
  have hk := vld_lt hv'
  have hlen : ∀ q, q ≠ 2 → len M' q = len M q := fun q hq => by
    match q with
    | 0 => show nx (M'.1 2) = nx (M.1 2); rw [hs 2 (by decide)]
    | 1 => show nx (M'.1 6) = nx (M.1 6); rw [hs 6 (by decide)]
    | 2 => exact absurd rfl hq
    | 3 => show nx (M'.1 35) = nx (M.1 35); rw [hs 35 (by decide)]
    | t + 4 => show nx (M'.2.1 21 t) = nx (M.2.1 21 t); rw [c2 21 t (Or.inl (by decide))]
  rcases (by omega : k' = 0 ∨ k' = 1 ∨ k' = 2 ∨ k' = 3 ∨ k' = 4 ∨ k' = 5 ∨ k' = 6 ∨ k' = 7 ∨ k' = 8 ∨ k' = 9 ∨ k' = 10 ∨ k' = 11 ∨ k' = 12 ∨ k' = 13 ∨ k' = 14 ∨ k' = 15 ∨ k' = 16 ∨ k' = 17) with rfl | rfl | rfl | rfl | rfl | rfl | rfl | rfl | rfl | rfl | rfl | rfl | rfl | rfl | rfl | rfl | rfl | rfl
  · show cBd G A M' = cBd G A M; simp only [cBd, hs 0 (by decide), hs 46 (by decide), hs 1 (by decide), hs 27 (by decide), hs 28 (by decide), hs 49 (by decide), hs 50 (by decide), hs 51 (by decide), hs 52 (by decide), hs 53 (by decide), hs 58 (by decide)]
  · show cLs G A M' i' = cLs G A M i'; simp only [cLs, hlen i' (fun e => hn1 ⟨rfl, e⟩)]
  · show cDt G A M' i' = cDt G A M i'; simp only [cDt, hlen i' (fun e => hn2 ⟨rfl, e⟩)]
  · show cKp G A M' i' = cKp G A M i'; simp only [cKp, c2 3 i' (Or.inl (by decide)), c2 4 i' (Or.inl (by decide)), c2 5 i' (Or.inl (by decide))]
  · show cWk G A M' i' = cWk G A M i'; simp only [cWk, c2 7 i' (Or.inl (by decide)), c2 8 i' (Or.inl (by decide)), c2 9 i' (Or.inl (by decide)), c2 10 i' (Or.inl (by decide))]
  · show cMr G A M' i' = cMr G A M i'; rfl
  · show cMm G A M' i' = cMm G A M i'; simp only [cMm, c2 29 i' (Or.inl (by decide)), c2 30 i' (Or.inl (by decide)), c2 31 i' (Or.inl (by decide)), c2 32 i' (Or.inl (by decide)), c3 33 i' (Or.inl (by decide)), c3 34 i' (Or.inl (by decide))]
  · show cTh G A M' i' = cTh G A M i'; simp only [cTh, tEx, lng, c2 12 i' (Or.inr (by have hv' : i' < nx (M.1 11) := hv'; omega)), c2 13 i' (Or.inr (by have hv' : i' < nx (M.1 11) := hv'; omega)), c2 14 i' (Or.inr (by have hv' : i' < nx (M.1 11) := hv'; omega)), c2 15 i' (Or.inr (by have hv' : i' < nx (M.1 11) := hv'; omega)), c2 16 i' (Or.inl (by decide)), c2 20 i' (Or.inl (by decide)), c3 18 i' (Or.inl (by decide)), hs 0 (by decide)]
  · show cGr G A M' i' = cGr G A M i'; simp only [cGr, c2 22 i' (Or.inl (by decide)), c2 23 i' (Or.inl (by decide)), c2 24 i' (Or.inl (by decide)), c3 25 i' (Or.inl (by decide)), c3 26 i' (Or.inl (by decide))]
  · show cLt G A M' i' = cLt G A M i'; simp only [cLt, c2 36 i' (Or.inl (by decide)), c2 37 i' (Or.inl (by decide)), c2 38 i' (Or.inl (by decide)), c2 39 i' (Or.inl (by decide)), c2 40 i' (Or.inl (by decide)), c2 41 i' (Or.inl (by decide)), c2 42 i' (Or.inl (by decide)), c2 43 i' (Or.inl (by decide)), c3 44 i' (Or.inl (by decide)), c3 45 i' (Or.inl (by decide))]
  · show cQu G A M' i' = cQu G A M i'; simp only [cQu, show ∀ q, M'.2.1 17 q = M.2.1 17 q from fun q => c2 17 q (Or.inl (by decide))]
  · show cGo G A M' = cGo G A M; rfl
  · show cGs G A M' i' = cGs G A M i'; simp only [cGs, show ∀ q, M'.2.2 47 q = M.2.2 47 q from fun q => c3 47 q (Or.inl (by decide))]
  · show cWo G A M' = cWo G A M; rfl
  · show cWs G A M' i' = cWs G A M i'; simp only [cWs, show ∀ q, M'.2.2 48 q = M.2.2 48 q from fun q => c3 48 q (Or.inl (by decide))]
  · show cTo G A M' = cTo G A M; rfl
  · show cTr G A M' i' = cTr G A M i'; simp only [cTr, c2 54 i' (Or.inl (by decide)), c2 55 i' (Or.inl (by decide))]
  · show cRw G A M' i' = cRw G A M i'; simp only [cRw, c2 54 i' (Or.inl (by decide)), c2 56 i' (Or.inl (by decide)), show ∀ q, M'.2.2 57 q = M.2.2 57 q from fun q => c3 57 q (Or.inl (by decide))]
theorem ccM_L {j : Nat} (hs : ∀ f, f ≠ 35 → M'.1 f = M.1 f) (c2 : ∀ f i, f ∉ ([36, 37, 38, 39, 40, 41, 42, 43] : List Nat) ∨ i ≠ j → M'.2.1 f i = M.2.1 f i) (c3 : ∀ f i, f ∉ ([44, 45] : List Nat) ∨ i ≠ j → M'.2.2 f i = M.2.2 f i) (hj : j = nx (M.1 35)) :
    ∀ k' i', vld B M k' i' → ¬ (k' = 1 ∧ i' = 3) → ¬ (k' = 2 ∧ i' = 3) → cc G A M' k' i' = cc G A M k' i' := by
  intro k' i' hv' hn1 hn2
  have hk := vld_lt hv'
  have hlen : ∀ q, q ≠ 3 → len M' q = len M q := fun q hq => by
    match q with
    | 0 => show nx (M'.1 2) = nx (M.1 2); rw [hs 2 (by decide)]
    | 1 => show nx (M'.1 6) = nx (M.1 6); rw [hs 6 (by decide)]
    | 2 => show nx (M'.1 11) = nx (M.1 11); rw [hs 11 (by decide)]
    | 3 => exact absurd rfl hq
    | t + 4 => show nx (M'.2.1 21 t) = nx (M.2.1 21 t); rw [c2 21 t (Or.inl (by decide))]
  rcases (by omega : k' = 0 ∨ k' = 1 ∨ k' = 2 ∨ k' = 3 ∨ k' = 4 ∨ k' = 5 ∨ k' = 6 ∨ k' = 7 ∨ k' = 8 ∨ k' = 9 ∨ k' = 10 ∨ k' = 11 ∨ k' = 12 ∨ k' = 13 ∨ k' = 14 ∨ k' = 15 ∨ k' = 16 ∨ k' = 17) with rfl | rfl | rfl | rfl | rfl | rfl | rfl | rfl | rfl | rfl | rfl | rfl | rfl | rfl | rfl | rfl | rfl | rfl
  · show cBd G A M' = cBd G A M; simp only [cBd, hs 0 (by decide), hs 46 (by decide), hs 1 (by decide), hs 27 (by decide), hs 28 (by decide), hs 49 (by decide), hs 50 (by decide), hs 51 (by decide), hs 52 (by decide), hs 53 (by decide), hs 58 (by decide)]
  · show cLs G A M' i' = cLs G A M i'; simp only [cLs, hlen i' (fun e => hn1 ⟨rfl, e⟩)]
  · show cDt G A M' i' = cDt G A M i'; simp only [cDt, hlen i' (fun e => hn2 ⟨rfl, e⟩)]
  · show cKp G A M' i' = cKp G A M i'; simp only [cKp, c2 3 i' (Or.inl (by decide)), c2 4 i' (Or.inl (by decide)), c2 5 i' (Or.inl (by decide))]
  · show cWk G A M' i' = cWk G A M i'; simp only [cWk, c2 7 i' (Or.inl (by decide)), c2 8 i' (Or.inl (by decide)), c2 9 i' (Or.inl (by decide)), c2 10 i' (Or.inl (by decide))]
  · show cMr G A M' i' = cMr G A M i'; rfl
  · show cMm G A M' i' = cMm G A M i'; simp only [cMm, c2 29 i' (Or.inl (by decide)), c2 30 i' (Or.inl (by decide)), c2 31 i' (Or.inl (by decide)), c2 32 i' (Or.inl (by decide)), c3 33 i' (Or.inl (by decide)), c3 34 i' (Or.inl (by decide))]
  · show cTh G A M' i' = cTh G A M i'; simp only [cTh, tEx, lng, c2 12 i' (Or.inl (by decide)), c2 13 i' (Or.inl (by decide)), c2 14 i' (Or.inl (by decide)), c2 15 i' (Or.inl (by decide)), c2 16 i' (Or.inl (by decide)), c2 20 i' (Or.inl (by decide)), c3 18 i' (Or.inl (by decide)), hs 0 (by decide)]
  · show cGr G A M' i' = cGr G A M i'; simp only [cGr, c2 22 i' (Or.inl (by decide)), c2 23 i' (Or.inl (by decide)), c2 24 i' (Or.inl (by decide)), c3 25 i' (Or.inl (by decide)), c3 26 i' (Or.inl (by decide))]
  · show cLt G A M' i' = cLt G A M i'; simp only [cLt, c2 36 i' (Or.inr (by have hv' : i' < nx (M.1 35) := hv'; omega)), c2 37 i' (Or.inr (by have hv' : i' < nx (M.1 35) := hv'; omega)), c2 38 i' (Or.inr (by have hv' : i' < nx (M.1 35) := hv'; omega)), c2 39 i' (Or.inr (by have hv' : i' < nx (M.1 35) := hv'; omega)), c2 40 i' (Or.inr (by have hv' : i' < nx (M.1 35) := hv'; omega)), c2 41 i' (Or.inr (by have hv' : i' < nx (M.1 35) := hv'; omega)), c2 42 i' (Or.inr (by have hv' : i' < nx (M.1 35) := hv'; omega)), c2 43 i' (Or.inr (by have hv' : i' < nx (M.1 35) := hv'; omega)), c3 44 i' (Or.inr (by have hv' : i' < nx (M.1 35) := hv'; omega)), c3 45 i' (Or.inr (by have hv' : i' < nx (M.1 35) := hv'; omega))]
  · show cQu G A M' i' = cQu G A M i'; simp only [cQu, show ∀ q, M'.2.1 17 q = M.2.1 17 q from fun q => c2 17 q (Or.inl (by decide))]
  · show cGo G A M' = cGo G A M; rfl
  · show cGs G A M' i' = cGs G A M i'; simp only [cGs, show ∀ q, M'.2.2 47 q = M.2.2 47 q from fun q => c3 47 q (Or.inl (by decide))]
  · show cWo G A M' = cWo G A M; rfl
  · show cWs G A M' i' = cWs G A M i'; simp only [cWs, show ∀ q, M'.2.2 48 q = M.2.2 48 q from fun q => c3 48 q (Or.inl (by decide))]
  · show cTo G A M' = cTo G A M; rfl
  · show cTr G A M' i' = cTr G A M i'; simp only [cTr, c2 54 i' (Or.inl (by decide)), c2 55 i' (Or.inl (by decide))]
  · show cRw G A M' i' = cRw G A M i'; simp only [cRw, c2 54 i' (Or.inl (by decide)), c2 56 i' (Or.inl (by decide)), show ∀ q, M'.2.2 57 q = M.2.2 57 q from fun q => c3 57 q (Or.inl (by decide))]
theorem ccM_G {t j : Nat} (hs : M'.1 = M.1) (c21 : ∀ i, i ≠ t → M'.2.1 21 i = M.2.1 21 i) (c2 : ∀ f i, f ≠ 21 → f ∉ [22, 23, 24] ∨ i ≠ j → M'.2.1 f i = M.2.1 f i) (c3 : ∀ f i, f ∉ [25, 26] ∨ i ≠ j → M'.2.2 f i = M.2.2 f i) (hj : j / 20 = t ∧ j % 20 = nx (M.2.1 21 t)) :
    ∀ k' i', vld B M k' i' → ¬ (k' = 1 ∧ i' = t + 4) → ¬ (k' = 2 ∧ i' = t + 4) → cc G A M' k' i' = cc G A M k' i' := by
  intro k' i' hv' hn1 hn2
  have hk := vld_lt hv'
  have hlen : ∀ q, q ≠ t + 4 → len M' q = len M q := fun q hq => by
    match q with
    | 0 | 1 | 2 | 3 => unfold len; rw [hs]
    | t' + 4 => show nx (M'.2.1 21 t') = nx (M.2.1 21 t'); rw [c21 t' (fun e => hq (by rw [e]))]
  rcases (by omega : k' = 0 ∨ k' = 1 ∨ k' = 2 ∨ k' = 3 ∨ k' = 4 ∨ k' = 5 ∨ k' = 6 ∨ k' = 7 ∨ k' = 8 ∨ k' = 9 ∨ k' = 10 ∨ k' = 11 ∨ k' = 12 ∨ k' = 13 ∨ k' = 14 ∨ k' = 15 ∨ k' = 16 ∨ k' = 17) with rfl | rfl | rfl | rfl | rfl | rfl | rfl | rfl | rfl | rfl | rfl | rfl | rfl | rfl | rfl | rfl | rfl | rfl
  · show cBd G A M' = cBd G A M; simp only [cBd, hs]
  · show cLs G A M' i' = cLs G A M i'; simp only [cLs, hlen i' (fun e => hn1 ⟨rfl, e⟩)]
  · show cDt G A M' i' = cDt G A M i'; simp only [cDt, hlen i' (fun e => hn2 ⟨rfl, e⟩)]
  · show cKp G A M' i' = cKp G A M i'; simp only [cKp, c2 3 i' (by decide) (Or.inl (by decide)), c2 4 i' (by decide) (Or.inl (by decide)), c2 5 i' (by decide) (Or.inl (by decide))]
  · show cWk G A M' i' = cWk G A M i'; simp only [cWk, c2 7 i' (by decide) (Or.inl (by decide)), c2 8 i' (by decide) (Or.inl (by decide)), c2 9 i' (by decide) (Or.inl (by decide)), c2 10 i' (by decide) (Or.inl (by decide))]
  · show cMr G A M' i' = cMr G A M i'; rfl
  · show cMm G A M' i' = cMm G A M i'; simp only [cMm, c2 29 i' (by decide) (Or.inl (by decide)), c2 30 i' (by decide) (Or.inl (by decide)), c2 31 i' (by decide) (Or.inl (by decide)), c2 32 i' (by decide) (Or.inl (by decide)), c3 33 i' (Or.inl (by decide)), c3 34 i' (Or.inl (by decide))]
  · show cTh G A M' i' = cTh G A M i'; simp only [cTh, tEx, lng, hs, c2 12 i' (by decide) (Or.inl (by decide)), c2 13 i' (by decide) (Or.inl (by decide)), c2 14 i' (by decide) (Or.inl (by decide)), c2 15 i' (by decide) (Or.inl (by decide)), c2 16 i' (by decide) (Or.inl (by decide)), c2 20 i' (by decide) (Or.inl (by decide)), c3 18 i' (Or.inl (by decide))]
  · show cGr G A M' i' = cGr G A M i'; simp only [cGr, c2 22 i' (by decide) (Or.inr (fun e => by subst e; have hv' : i' / 20 < _ ∧ i' % 20 < _ := hv'; rw [hj.1] at hv'; omega)), c2 23 i' (by decide) (Or.inr (fun e => by subst e; have hv' : i' / 20 < _ ∧ i' % 20 < _ := hv'; rw [hj.1] at hv'; omega)), c2 24 i' (by decide) (Or.inr (fun e => by subst e; have hv' : i' / 20 < _ ∧ i' % 20 < _ := hv'; rw [hj.1] at hv'; omega)), c3 25 i' (Or.inr (fun e => by subst e; have hv' : i' / 20 < _ ∧ i' % 20 < _ := hv'; rw [hj.1] at hv'; omega)), c3 26 i' (Or.inr (fun e => by subst e; have hv' : i' / 20 < _ ∧ i' % 20 < _ := hv'; rw [hj.1] at hv'; omega))]
  · show cLt G A M' i' = cLt G A M i'; simp only [cLt, c2 36 i' (by decide) (Or.inl (by decide)), c2 37 i' (by decide) (Or.inl (by decide)), c2 38 i' (by decide) (Or.inl (by decide)), c2 39 i' (by decide) (Or.inl (by decide)), c2 40 i' (by decide) (Or.inl (by decide)), c2 41 i' (by decide) (Or.inl (by decide)), c2 42 i' (by decide) (Or.inl (by decide)), c2 43 i' (by decide) (Or.inl (by decide)), c3 44 i' (Or.inl (by decide)), c3 45 i' (Or.inl (by decide))]
  · show cQu G A M' i' = cQu G A M i'; simp only [cQu, show ∀ q, M'.2.1 17 q = M.2.1 17 q from fun q => c2 17 q (by decide) (Or.inl (by decide))]
  · show cGo G A M' = cGo G A M; rfl
  · show cGs G A M' i' = cGs G A M i'; simp only [cGs, show ∀ q, M'.2.2 47 q = M.2.2 47 q from fun q => c3 47 q (Or.inl (by decide))]
  · show cWo G A M' = cWo G A M; rfl
  · show cWs G A M' i' = cWs G A M i'; simp only [cWs, show ∀ q, M'.2.2 48 q = M.2.2 48 q from fun q => c3 48 q (Or.inl (by decide))]
  · show cTo G A M' = cTo G A M; rfl
  · show cTr G A M' i' = cTr G A M i'; simp only [cTr, c2 54 i' (by decide) (Or.inl (by decide)), c2 55 i' (by decide) (Or.inl (by decide))]
  · show cRw G A M' i' = cRw G A M i'; simp only [cRw, c2 54 i' (by decide) (Or.inl (by decide)), c2 56 i' (by decide) (Or.inl (by decide)), show ∀ q, M'.2.2 57 q = M.2.2 57 q from fun q => c3 57 q (Or.inl (by decide))]
/-- the book behind an add: list ll's row at b with room n' -/
def aAdd (A : AD) (ll b n' : Nat) (N : Nat → Nat → Option Nat) : AD := (fun k i => match N k i with | some a => a | none => if k = 2 ∧ i = ll then b else A.1 k i, fu A.2.1 ll n', fu A.2.2.1 ll (A.2.2.1 ll + 1), A.2.2.2)
/-- places that were there keep their addresses -/
def ext (A : AD) (M : MS) (A' : AD) : Prop := ∀ k i, k ≠ 2 → k ≠ 8 → vld A M k i → A'.1 k i = A.1 k i
theorem ext.refl (A : AD) (M : MS) : ext A M A := fun _ _ _ _ _ => rfl
/-- the cells of a list, as ArrayList's methods want them -/
theorem RH.lst (hR : RH G hp A M h) {ll : Nat} (hl : ll < 4 + nx (M.1 11)) : h (A.1 1 ll) = some (oB 0 [.int (A.2.2.1 ll), .ref (if A.2.1 ll = 0 then gE G else A.1 2 ll), .int (nI (len M ll))]) := hR.at (k := 1) hl
theorem RH.dat (hR : RH G hp A M h) {ll : Nat} (hl : ll < 4 + nx (M.1 11)) : h (if A.2.1 ll = 0 then gE G else A.1 2 ll) = some (aR 3 (A.2.1 ll) (lstF (len M ll) (elt A ll))) := by
  by_cases hz : A.2.1 ll = 0
  · rw [if_pos hz, hR.nil, hz]
    have : len M ll = 0 := by have := (hR.2.2.2.2.1 ll hl).1; omega
    rw [this, lstF_0]; rfl
  · rw [if_neg hz]; exact hR.at (k := 2) ⟨hl, hz⟩
theorem RH.cap (hR : RH G hp A M h) {ll : Nat} (hl : ll < 4 + nx (M.1 11)) : len M ll ≤ A.2.1 ll ∧ A.2.1 ll ≤ 600 := hR.2.2.2.2.1 ll hl
theorem RH.vElt (hR : RH G hp A M h) (hT : tidy M) {ll i : Nat} (hl : ll < 4 + nx (M.1 11)) (hi : i < len M ll) : isO h (elt A ll i) := by
  match ll with
  | 0 => exact ⟨6, _, hR.at (k := 3) hi, cO_6⟩
  | 1 => exact ⟨11, _, hR.at (k := 4) hi, cO_11⟩
  | 2 => exact ⟨_, _, hR.at (k := 7) hi, canT _⟩
  | 3 => exact ⟨3, _, hR.at (k := 9) hi, cO_3⟩
  | t + 4 => exact ⟨2, _, hR.at (k := 8) (i := 20 * t + i) (by
      have h20 := hT.1 t (by omega)
      have hi : i < nx (M.2.1 21 t) := hi
      show (20 * t + i) / 20 < _ ∧ (20 * t + i) % 20 < _
      rw [show (20 * t + i) / 20 = t by omega, show (20 * t + i) % 20 = i by omega]
      exact ⟨by omega, hi⟩), cO_2⟩
end RH3
