/-! ===== the class: put ===== -/
def aTr (A : AD) (y r : Nat) : AD := (fun k i => if k = 17 ∧ i = y then r else A.1 k i, A.2.1, A.2.2.1, A.2.2.2)
section RA32
variable {G : WG} {hp hp0 h h' : Hp} {A : AD} {M M' : MS}
theorem RH.putT (hR : RH G hp0 A M h) (hT : tidy M) {y r : Nat} (hy : y < 6) (hs : M'.1 = M.1) (c2 : ∀ f i, f ∉ ([54, 55, 56] : List Nat) ∨ i ≠ y → M'.2.1 f i = M.2.1 f i) (c3 : ∀ f i, f ≠ 57 ∨ i / 20 ≠ y → M'.2.2 f i = M.2.2 f i) (hz : ∀ i, i < 6 → i ≠ y → nx (M.2.1 56 i) ≤ 20) (hrow : (M'.2.1 54 y = 3 ∨ M'.2.1 54 y = 4) → hp0 r = some (cRw G A M' y)) (hcell : h' (A.1 16 y) = some (cTr G (aTr A y r) M' y)) (hfr : ∀ q, q ≠ A.1 16 y → h' q = h q) (hhp : ∀ a x, hp a = some x → hp0 a = some x ∧ ((M'.2.1 54 y = 3 ∨ M'.2.1 54 y = 4) → a ≠ r)) (hg : hp (gE G) = some e_nil) : RH G hp (aTr A y r) M' h' := by
  obtain ⟨r1, r2, r3, r4, r5, r6⟩ := hR
  have v16 : vld A M 16 y := vl_16.mpr hy
  have hA : ∀ k i, ¬ (k = 17 ∧ i = y) → (aTr A y r).1 k i = A.1 k i := fun k i hn => by show (if k = 17 ∧ i = y then r else A.1 k i) = _; rw [if_neg hn]
  have hAr : (aTr A y r).1 17 y = r := by show (if 17 = 17 ∧ y = y then r else A.1 17 y) = r; rw [if_pos ⟨rfl, rfl⟩]
  have hlen : ∀ q, len M' q = len M q := fun q => by
    match q with
    | 0 | 1 | 2 | 3 => unfold len; rw [hs]
    | t + 4 => show nx (M'.2.1 21 t) = nx (M.2.1 21 t); rw [c2 21 t (Or.inl (by decide))]
  have hvv : ∀ k i, vld (aTr A y r) M' k i → (vld A M k i ∧ ¬ (k = 17 ∧ i = y)) ∨ (k = 17 ∧ i = y ∧ (M'.2.1 54 y = 3 ∨ M'.2.1 54 y = 4)) := by
    intro k i hv
    have hk := vld_lt hv
    rcases (by omega : k = 0 ∨ k = 1 ∨ k = 2 ∨ k = 3 ∨ k = 4 ∨ k = 5 ∨ k = 6 ∨ k = 7 ∨ k = 8 ∨ k = 9 ∨ k = 10 ∨ k = 11 ∨ k = 12 ∨ k = 13 ∨ k = 14 ∨ k = 15 ∨ k = 16 ∨ k = 17) with rfl | rfl | rfl | rfl | rfl | rfl | rfl | rfl | rfl | rfl | rfl | rfl | rfl | rfl | rfl | rfl | rfl | rfl
    · rw [vl_0] at hv; refine Or.inl ⟨vl_0.mpr (by simpa only [hs] using hv), fun z => by omega⟩
    · rw [vl_1] at hv; refine Or.inl ⟨vl_1.mpr (by simpa only [hs] using hv), fun z => by omega⟩
    · rw [vl_2] at hv; refine Or.inl ⟨vl_2.mpr (by rw [hs] at hv; exact hv), fun z => by omega⟩
    · rw [vl_3] at hv; refine Or.inl ⟨vl_3.mpr (by simpa only [hs] using hv), fun z => by omega⟩
    · rw [vl_4] at hv; refine Or.inl ⟨vl_4.mpr (by simpa only [hs] using hv), fun z => by omega⟩
    · rw [vl_5] at hv; refine Or.inl ⟨vl_5.mpr (by simpa only [hs] using hv), fun z => by omega⟩
    · rw [vl_6] at hv; refine Or.inl ⟨vl_6.mpr (by simpa only [hs] using hv), fun z => by omega⟩
    · rw [vl_7] at hv; refine Or.inl ⟨vl_7.mpr (by simpa only [hs] using hv), fun z => by omega⟩
    · rw [vl_8] at hv; refine Or.inl ⟨vl_8.mpr (by simpa only [hs, c2 21 _ (Or.inl (by decide : (21 : Nat) ∉ ([54, 55, 56] : List Nat)))] using hv), fun z => by omega⟩
    · rw [vl_9] at hv; refine Or.inl ⟨vl_9.mpr (by simpa only [hs] using hv), fun z => by omega⟩
    · rw [vl_10] at hv; refine Or.inl ⟨vl_10.mpr (by simpa only [hs, c2 12 _ (Or.inl (by decide : (12 : Nat) ∉ ([54, 55, 56] : List Nat)))] using hv), fun z => by omega⟩
    · rw [vl_11] at hv; refine Or.inl ⟨vl_11.mpr (by simpa only [hs] using hv), fun z => by omega⟩
    · rw [vl_12] at hv; refine Or.inl ⟨vl_12.mpr (by simpa only [hs] using hv), fun z => by omega⟩
    · rw [vl_13] at hv; refine Or.inl ⟨vl_13.mpr (by simpa only [hs] using hv), fun z => by omega⟩
    · rw [vl_14] at hv; refine Or.inl ⟨vl_14.mpr (by simpa only [hs] using hv), fun z => by omega⟩
    · rw [vl_15] at hv; refine Or.inl ⟨vl_15.mpr (by simpa only [hs] using hv), fun z => by omega⟩
    · rw [vl_16] at hv; refine Or.inl ⟨vl_16.mpr (by simpa only [hs] using hv), fun z => by omega⟩
    · rw [vl_17] at hv
      by_cases e : i = y
      · subst e; exact Or.inr ⟨rfl, rfl, hv.2⟩
      · rw [c2 54 i (Or.inr e)] at hv; exact Or.inl ⟨vl_17.mpr hv, fun z => e z.2⟩
  have hcc : ∀ k i, vld A M k i → ¬ (k = 17 ∧ i = y) → ¬ (k = 16 ∧ i = y) → cc G (aTr A y r) M' k i = cc G A M k i := by
    intro k i hv h17 h16
    have hk := vld_lt hv
    rcases (by omega : k = 0 ∨ k = 1 ∨ k = 2 ∨ k = 3 ∨ k = 4 ∨ k = 5 ∨ k = 6 ∨ k = 7 ∨ k = 8 ∨ k = 9 ∨ k = 10 ∨ k = 11 ∨ k = 12 ∨ k = 13 ∨ k = 14 ∨ k = 15 ∨ k = 16 ∨ k = 17) with rfl | rfl | rfl | rfl | rfl | rfl | rfl | rfl | rfl | rfl | rfl | rfl | rfl | rfl | rfl | rfl | rfl | rfl
    · show cBd G (aTr A y r) M' = cBd G A M; simp only [cBd, hs, hA 1 0 (fun z => by omega), hA 1 1 (fun z => by omega), hA 1 2 (fun z => by omega), hA 1 3 (fun z => by omega), hA 11 0 (fun z => by omega), hA 13 0 (fun z => by omega), hA 15 0 (fun z => by omega)] <;> rfl
    · show cLs G (aTr A y r) M' i = cLs G A M i; simp only [cLs, hs, hA 2 i (fun z => by omega), hlen] <;> rfl
    · show cDt G (aTr A y r) M' i = cDt G A M i; have eE : elt (aTr A y r) i = elt A i := by
        match i with
        | 0 => funext q; exact hA 3 q (fun z => by omega)
        | 1 => funext q; exact hA 4 q (fun z => by omega)
        | 2 => funext q; exact hA 7 q (fun z => by omega)
        | 3 => funext q; exact hA 9 q (fun z => by omega)
        | t + 4 => funext q; exact hA 8 (20 * t + q) (fun z => by omega)
      unfold cDt; rw [eE, hlen]; rfl
    · show cKp G (aTr A y r) M' i = cKp G A M i; simp only [cKp, hs, c2 3 i (Or.inl (by decide)), c2 4 i (Or.inl (by decide)), c2 5 i (Or.inl (by decide))]
    · show cWk G (aTr A y r) M' i = cWk G A M i; simp only [cWk, hs, c2 7 i (Or.inl (by decide)), c2 8 i (Or.inl (by decide)), c2 9 i (Or.inl (by decide)), c2 10 i (Or.inl (by decide)), hA 5 i (fun z => by omega)]
    · show cMr G (aTr A y r) M' i = cMr G A M i; simp only [cMr, hs, show ∀ t, (aTr A y r).1 6 t = A.1 6 t from fun t => hA 6 t (fun z => by omega)]
    · show cMm G (aTr A y r) M' i = cMm G A M i; simp only [cMm, hs, c2 29 i (Or.inl (by decide)), c2 30 i (Or.inl (by decide)), c2 31 i (Or.inl (by decide)), c2 32 i (Or.inl (by decide)), c3 33 i (Or.inl (by decide)), c3 34 i (Or.inl (by decide))]
    · show cTh G (aTr A y r) M' i = cTh G A M i; simp only [cTh, tEx, lng, hs, c2 12 i (Or.inl (by decide)), c2 13 i (Or.inl (by decide)), c2 14 i (Or.inl (by decide)), c2 15 i (Or.inl (by decide)), c2 16 i (Or.inl (by decide)), c2 20 i (Or.inl (by decide)), c3 18 i (Or.inl (by decide)), hA 1 (i + 4) (fun z => by omega), hA 10 i (fun z => by omega)] <;> rfl
    · show cGr G (aTr A y r) M' i = cGr G A M i; simp only [cGr, hs, c2 22 i (Or.inl (by decide)), c2 23 i (Or.inl (by decide)), c2 24 i (Or.inl (by decide)), c3 25 i (Or.inl (by decide)), c3 26 i (Or.inl (by decide))]
    · show cLt G (aTr A y r) M' i = cLt G A M i; simp only [cLt, hs, c2 36 i (Or.inl (by decide)), c2 37 i (Or.inl (by decide)), c2 38 i (Or.inl (by decide)), c2 39 i (Or.inl (by decide)), c2 40 i (Or.inl (by decide)), c2 41 i (Or.inl (by decide)), c2 42 i (Or.inl (by decide)), c2 43 i (Or.inl (by decide)), c3 44 i (Or.inl (by decide)), c3 45 i (Or.inl (by decide))]
    · show cQu G (aTr A y r) M' i = cQu G A M i; simp only [cQu, hs, show ∀ q, M'.2.1 17 q = M.2.1 17 q from fun q => c2 17 q (Or.inl (by decide))]
    · show cGo G (aTr A y r) M' = cGo G A M; simp only [cGo, hs, show (aTr A y r).1 12 = A.1 12 from funext fun t => hA 12 t (fun z => by omega)]
    · show cGs G (aTr A y r) M' i = cGs G A M i; simp only [cGs, hs, show ∀ q, M'.2.2 47 q = M.2.2 47 q from fun q => c3 47 q (Or.inl (by decide))]
    · show cWo G (aTr A y r) M' = cWo G A M; simp only [cWo, hs, show (aTr A y r).1 14 = A.1 14 from funext fun t => hA 14 t (fun z => by omega)]
    · show cWs G (aTr A y r) M' i = cWs G A M i; simp only [cWs, hs, show ∀ q, M'.2.2 48 q = M.2.2 48 q from fun q => c3 48 q (Or.inl (by decide))]
    · show cTo G (aTr A y r) M' = cTo G A M; simp only [cTo, hs, show (aTr A y r).1 16 = A.1 16 from funext fun t => hA 16 t (fun z => by omega)]
    · have e : i ≠ y := fun z => h16 ⟨rfl, z⟩
      show cTr G (aTr A y r) M' i = cTr G A M i
      unfold cTr
      rw [hA 17 i (fun z => e z.2), c2 54 i (Or.inr e), c2 55 i (Or.inr e), hA 7 _ (fun z => by omega), hA 9 _ (fun z => by omega)]
    · have e : i ≠ y := fun z => h17 ⟨rfl, z⟩
      have hi := (vl_17.mp hv).1
      have hz' := hz i hi e
      show cRw G (aTr A y r) M' i = cRw G A M i
      unfold cRw
      have e57 : ∀ q, q < 20 → M'.2.2 57 (20 * i + q) = M.2.2 57 (20 * i + q) := fun q hq => c3 57 _ (Or.inr (by omega))
      rw [c2 54 i (Or.inr e), c2 56 i (Or.inr e)]
      by_cases z : M.2.1 54 i = 3
      · rw [if_pos z, if_pos z]
        refine congrArg (aJ _) (funext fun q => ?_)
        by_cases hq : q < nx (M.2.1 56 i)
        · rw [if_pos hq, if_pos hq, e57 q (by omega)]
        · rw [if_neg hq, if_neg hq]
      · rw [if_neg z, if_neg z]
        refine congrArg (aZ _) (funext fun q => ?_)
        by_cases hq : q < nx (M.2.1 56 i)
        · rw [if_pos hq, if_pos hq, e57 q (by omega)]
        · rw [if_neg hq, if_neg hq]
  refine ⟨fun k i hv => ?_, fun k i k' i' hv hv' e => ?_, fun a e ha => ?_, hg, fun i hi => ?_, fun t ht hn => ?_⟩
  · rcases hvv k i hv with ⟨hw, hn⟩ | ⟨rfl, rfl, h34⟩
    · rw [hA k i hn]
      by_cases h16 : k = 16 ∧ i = y
      · obtain ⟨rfl, rfl⟩ := h16; exact hcell
      · rw [hfr _ (fun z => h16 (r2 k i 16 y hw v16 z)), r1 k i hw, hcc k i hw hn h16]
    · rw [hAr]
      have hp := hrow h34
      obtain ⟨p1, p2⟩ := r3 _ _ hp
      rw [hfr _ (fun z => p2 16 i v16 z.symm), p1]; rfl
  · rcases hvv k i hv with ⟨hw, hn⟩ | ⟨rfl, rfl, h34⟩
    · rcases hvv k' i' hv' with ⟨hw', hn'⟩ | ⟨rfl, rfl, h34⟩
      · rw [hA k i hn, hA k' i' hn'] at e; exact r2 k i k' i' hw hw' e
      · rw [hA k i hn, hAr] at e; exact absurd e ((r3 _ _ (hrow h34)).2 k i hw)
    · rcases hvv k' i' hv' with ⟨hw', hn'⟩ | ⟨rfl, h2, h34⟩
      · rw [hA k' i' hn', hAr] at e; exact absurd e.symm ((r3 _ _ (hrow h34)).2 k' i' hw')
      · exact ⟨rfl, h2.symm⟩
  · obtain ⟨q1, q2⟩ := hhp a e ha
    obtain ⟨p1, p2⟩ := r3 a e q1
    refine ⟨by rw [hfr a (fun z => p2 16 y v16 z.symm)]; exact p1, fun k i hv => ?_⟩
    rcases hvv k i hv with ⟨hw, hn⟩ | ⟨rfl, rfl, h34⟩
    · rw [hA k i hn]; exact p2 k i hw
    · rw [hAr]; exact fun z => q2 h34 z.symm
  · rw [hlen]; rw [hs] at hi; exact r5 i hi
  · rw [c2 20 t (Or.inl (by decide))] at hn
    rw [hs] at ht
    rw [c3 19 t (Or.inl (by decide))]; exact r6 t ht hn
end RA32
