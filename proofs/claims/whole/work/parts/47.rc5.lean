/-! ===== the relation: a grant more, a grant less ===== -/
section RH5
variable {G : WG} {hp hp0 h h' : Hp} {A A' B : AD} {M M' : MS}
theorem RH.addG (hR : RH G hp0 A M h) (hT : tidy M) {t g : Nat} (ht : t < nx (M.1 11)) (hL : M.2.1 21 t = nI g) (hL4 : g < 20) {e b n' : Nat} (hs : M'.1 = M.1) (h21 : M'.2.1 21 t = nI (g + 1)) (c21 : ∀ i, i ≠ t → M'.2.1 21 i = M.2.1 21 i) (c2 : ∀ f i, f ≠ 21 → f ∉ [22, 23, 24] ∨ i ≠ 20 * t + g → M'.2.1 f i = M.2.1 f i) (c3 : ∀ f i, f ∉ [25, 26] ∨ i ≠ 20 * t + g → M'.2.2 f i = M.2.2 f i) (he : hp0 e = some (cGr G A M' (20 * t + g))) (h9 : added G A M h h' (t + 4) e b n') (hhp : ∀ a x, hp a = some x → hp0 a = some x ∧ a ≠ e) (hg : hp (gE G) = some e_nil) :
    ∃ A', RH G hp A' M' h' ∧ ext A M A' ∧ A'.1 8 (20 * t + g) = e ∧ A'.2.2.2 = A.2.2.2 := by
  have hLx : nx (M.2.1 21 t) = g := by rw [hL]; exact nx_nI (by omega)
  have hLx' : nx (M'.2.1 21 t) = g + 1 := by rw [h21]; exact nx_nI (by omega)
  have hll : t + 4 < 4 + nx (M.1 11) := by omega
  have hlen : len M (t + 4) = g := hLx
  have hlen' : len M' (t + 4) = g + 1 := hLx'
  have hln : ∀ q, q ≠ t + 4 → len M' q = len M q := fun q hq => by
    match q with
    | 0 | 1 | 2 | 3 => unfold len; rw [hs]
    | t' + 4 => show nx (M'.2.1 21 t') = nx (M.2.1 21 t'); rw [c21 t' (fun e => hq (by rw [e]))]
  have hn := h9.n hR hll
  have hj : (20 * t + g) / 20 = t ∧ (20 * t + g) % 20 = g := by omega
  generalize hA' : aAdd A (t + 4) b n' (fun k i => if k = 8 ∧ i = 20 * t + g then some e else none) = A'
  have hAv : ∀ k i, ¬ (k = 8 ∧ i = 20 * t + g) → ¬ (k = 2 ∧ i = t + 4) → A'.1 k i = A.1 k i := fun k i z1 z2 => by rw [← hA']; simp only [aAdd, z1, z2, if_false]
  have hAe : A'.1 8 (20 * t + g) = e := by rw [← hA']; simp [aAdd]
  have hAb : A'.1 2 (t + 4) = b := by rw [← hA']; simp [aAdd]
  have hAc : A'.2.1 = fu A.2.1 (t + 4) n' := by rw [← hA']; rfl
  have hAm : A'.2.2.1 = fu A.2.2.1 (t + 4) (A.2.2.1 (t + 4) + 1) := by rw [← hA']; rfl
  have hAz : A'.2.2.2 = A.2.2.2 := by rw [← hA']; rfl
  have hold : ∀ k i, vld A M k i → ¬ (k = 8 ∧ i = 20 * t + g) := by
    rintro k i hv ⟨rfl, rfl⟩
    have hv := (vl_8.mp hv).2
    rw [hj.1, hj.2, hLx] at hv
    omega
  refine ⟨A', ?_, fun k i h1 _ hv => hAv k i (hold k i hv) (fun z => h1 z.1), hAe, hAz⟩
  refine hR.add hll (fun k i => k = 8 ∧ i = 20 * t + g) h9.b (fun k i hv => ?_) (fun k i hv hne => hAv k i (hold k i hv) hne) hAb (fun k i hv n1 n2 => ?_) ?_ (fun k i k' i' z z' _ => ⟨by omega, by omega⟩) ?_ ?_ h9.2.2.2 (fun a x ha => ⟨(hhp a x ha).1, fun k i z => by rw [z.1, z.2, hAe]; exact Ne.symm (hhp a x ha).2⟩) hg (fun i hi => ?_) (fun t ht hn9 => ?_)
  · have hk := vld_lt hv
    by_cases z2 : k = 2 ∧ i = t + 4
    · exact Or.inr (Or.inl z2)
    by_cases z9 : k = 8 ∧ i = 20 * t + g
    · exact Or.inr (Or.inr z9)
    refine Or.inl ⟨?_, z2⟩
    rcases (by omega : k = 0 ∨ k = 1 ∨ k = 2 ∨ k = 3 ∨ k = 4 ∨ k = 5 ∨ k = 6 ∨ k = 7 ∨ k = 8 ∨ k = 9 ∨ k = 10 ∨ k = 11 ∨ k = 12 ∨ k = 13 ∨ k = 14 ∨ k = 15 ∨ k = 16 ∨ k = 17) with rfl | rfl | rfl | rfl | rfl | rfl | rfl | rfl | rfl | rfl | rfl | rfl | rfl | rfl | rfl | rfl | rfl | rfl
    · exact vl_0.mpr (vl_0.mp hv)
    · have hv := vl_1.mp hv; refine vl_1.mpr ?_; rw [hs] at hv; exact hv
    · have hv := vl_2.mp hv; refine vl_2.mpr ?_; rw [hAc, fu_n _ _ (fun e => z2 ⟨rfl, e⟩), hs] at hv; exact hv
    · have hv := vl_3.mp hv; refine vl_3.mpr ?_; rw [hs] at hv; exact hv
    · have hv := vl_4.mp hv; refine vl_4.mpr ?_; rw [hs] at hv; exact hv
    · have hv := vl_5.mp hv; refine vl_5.mpr ?_; rw [hs] at hv; exact hv
    · have hv := vl_6.mp hv; refine vl_6.mpr ?_; rw [hs] at hv; exact hv
    · have hv := vl_7.mp hv; refine vl_7.mpr ?_; rw [hs] at hv; exact hv
    · have hv := vl_8.mp hv; refine vl_8.mpr ?_; rw [hs] at hv
      refine ⟨hv.1, ?_⟩
      by_cases e : i / 20 = t
      · have h2 := hv.2; rw [e, hLx'] at h2; rw [e, hLx]
        have : i ≠ 20 * t + g := fun y => z9 ⟨rfl, y⟩
        omega
      · rw [← c21 _ e]; exact hv.2
    · have hv := vl_9.mp hv; refine vl_9.mpr ?_; rw [hs] at hv; exact hv
    · have hv := vl_10.mp hv; refine vl_10.mpr ?_; rw [c2 12 _ (by decide) (Or.inl (by decide)), hs] at hv; exact hv
    · exact vl_11.mpr (vl_11.mp hv)
    · exact vl_12.mpr (vl_12.mp hv)
    · exact vl_13.mpr (vl_13.mp hv)
    · exact vl_14.mpr (vl_14.mp hv)
    · exact vl_15.mpr (vl_15.mp hv)
    · exact vl_16.mpr (vl_16.mp hv)
    · have hv := vl_17.mp hv; refine vl_17.mpr ?_; rw [c2 54 _ (by decide) (Or.inl (by decide))] at hv; exact hv
  · rw [ccM_G (B := A) hs c21 c2 c3 ⟨hj.1, by rw [hLx]; exact hj.2⟩ k i hv n1 n2]
    exact ccA hT (t + 4) (fun k i hv hne => hAv k i (hold k i hv) hne) (fun i hi _ => ⟨by rw [hAc, fu_n _ _ hi], by rw [hAm, fu_n _ _ hi]⟩) (fun t _ => by rw [hAz]) k i hv n1 n2
  · rintro k i ⟨rfl, rfl⟩
    rw [hAe]; exact he
  · rw [h9.2.2.1]
    show _ = some (cLs G A' M' (t + 4))
    unfold cLs
    rw [hAc, hAm, fu_s, fu_s, if_neg (by omega), hAb, hlen', hlen]
  · rw [h9.2.1]
    show _ = some (cDt G A' M' (t + 4))
    unfold cDt
    rw [hAc, fu_s, hlen', hlen]
    refine congrArg (fun z => some (aR 3 n' z)) (lstF_congr fun i hi => ?_).symm
    show A'.1 8 (20 * t + i) = fu (fun i => A.1 8 (20 * t + i)) g e i
    by_cases z : i = g
    · rw [z, hAe, fu_s]
    · rw [fu_n _ _ z, hAv 8 (20 * t + i) (fun y => z (by omega)) (fun y => by omega)]
  · rw [hs] at hi
    rw [hAc]
    by_cases z : i = t + 4
    · rw [z, fu_s, hlen']; omega
    · rw [fu_n _ _ z, hln i z]; exact hR.cap hi
  · rw [c2 20 t (by decide) (Or.inl (by decide))] at hn9
    rw [hs] at ht
    rw [hAz, c3 19 t (Or.inl (by decide))]
    exact hR.2.2.2.2.2 t ht hn9
/-- place a of list t+4 goes: those behind it move up -/
theorem RH.remG (hR : RH G hp A M h) (hT : tidy M) {t g a : Nat} (ht : t < nx (M.1 11)) (hL : M.2.1 21 t = nI g) (hL4 : g ≤ 20) (ha : a < g) (hs : M'.1 = M.1) (h21 : M'.2.1 21 t = nI (g - 1)) (c21 : ∀ i, i ≠ t → M'.2.1 21 i = M.2.1 21 i) (c2 : ∀ f i, f ≠ 21 → f ∉ [22, 23, 24] ∨ i / 20 ≠ t → M'.2.1 f i = M.2.1 f i) (c3 : ∀ f i, f ∉ [25, 26] ∨ i / 20 ≠ t → M'.2.2 f i = M.2.2 f i)
    (s2 : ∀ f q, f = 22 ∨ f = 23 ∨ f = 24 → q < g - 1 → M'.2.1 f (20 * t + q) = M.2.1 f (20 * t + (if q < a then q else q + 1))) (s3 : ∀ f q, f = 25 ∨ f = 26 → q < g - 1 → M'.2.2 f (20 * t + q) = M.2.2 f (20 * t + (if q < a then q else q + 1)))
    (q1 : h' (if A.2.1 (t + 4) = 0 then gE G else A.1 2 (t + 4)) = some (aR 3 (A.2.1 (t + 4)) (lstF (g - 1) (shl (elt A (t + 4)) a)))) (q2 : h' (A.1 1 (t + 4)) = some (oB 0 [.int (A.2.2.1 (t + 4) + 1), .ref (if A.2.1 (t + 4) = 0 then gE G else A.1 2 (t + 4)), .int (nI (g - 1))])) (q3 : ∀ q, q ≠ A.1 1 (t + 4) → q ≠ (if A.2.1 (t + 4) = 0 then gE G else A.1 2 (t + 4)) → h' q = h q) :
    ∃ A', RH G hp A' M' h' ∧ ext A M A' ∧ A'.2.2.2 = A.2.2.2 := by
  have hLx : nx (M.2.1 21 t) = g := by rw [hL]; exact nx_nI (by omega)
  have hLx' : nx (M'.2.1 21 t) = g - 1 := by rw [h21]; exact nx_nI (by omega)
  have hll : t + 4 < 4 + nx (M.1 11) := by omega
  have hlen : len M (t + 4) = g := hLx
  have hlen' : len M' (t + 4) = g - 1 := hLx'
  have hcap0 : A.2.1 (t + 4) ≠ 0 := by have := (hR.cap hll).1; omega
  rw [if_neg hcap0] at q1 q2 q3
  have hln : ∀ q, q ≠ t + 4 → len M' q = len M q := fun q hq => by
    match q with
    | 0 | 1 | 2 | 3 => unfold len; rw [hs]
    | t' + 4 => show nx (M'.2.1 21 t') = nx (M.2.1 21 t'); rw [c21 t' (fun e => hq (by rw [e]))]
  generalize hA' : (((fun k i => if k = 8 ∧ i / 20 = t then A.1 8 (20 * t + (if i % 20 < a then i % 20 else i % 20 + 1)) else A.1 k i), A.2.1, fu A.2.2.1 (t + 4) (A.2.2.1 (t + 4) + 1), A.2.2.2) : AD) = A'
  have hAv : ∀ k i, ¬ (k = 8 ∧ i / 20 = t) → A'.1 k i = A.1 k i := fun k i z => by rw [← hA']; simp only [z, if_false]
  have hA8 : ∀ q, q < 20 → A'.1 8 (20 * t + q) = A.1 8 (20 * t + (if q < a then q else q + 1)) := fun q hq => by
    rw [← hA']; simp only [show (20 * t + q) / 20 = t by omega, show (20 * t + q) % 20 = q by omega, and_self, if_true]
  have hAc : A'.2.1 = A.2.1 := by rw [← hA']
  have hAm : A'.2.2.1 = fu A.2.2.1 (t + 4) (A.2.2.1 (t + 4) + 1) := by rw [← hA']
  have hAz : A'.2.2.2 = A.2.2.2 := by rw [← hA']
  have vg : ∀ q, q < g → vld A M 8 (20 * t + q) := fun q hq => vl_8.mpr (by rw [show (20 * t + q) / 20 = t by omega, show (20 * t + q) % 20 = q by omega, hLx]; exact ⟨ht, hq⟩)
  -- every place that is left: either as it was, or a grant of t
  have hvv : ∀ k i, vld A' M' k i → (vld A M k i ∧ ¬ (k = 8 ∧ i / 20 = t)) ∨ (k = 8 ∧ ∃ q, q < g - 1 ∧ i = 20 * t + q) := by
    intro k i hv
    have hk := vld_lt hv
    by_cases z8 : k = 8 ∧ i / 20 = t
    · obtain ⟨rfl, z8⟩ := z8
      have hv := (vl_8.mp hv).2
      rw [z8, hLx'] at hv
      exact Or.inr ⟨rfl, i % 20, hv, by omega⟩
    refine Or.inl ⟨?_, z8⟩
    rcases (by omega : k = 0 ∨ k = 1 ∨ k = 2 ∨ k = 3 ∨ k = 4 ∨ k = 5 ∨ k = 6 ∨ k = 7 ∨ k = 8 ∨ k = 9 ∨ k = 10 ∨ k = 11 ∨ k = 12 ∨ k = 13 ∨ k = 14 ∨ k = 15 ∨ k = 16 ∨ k = 17) with rfl | rfl | rfl | rfl | rfl | rfl | rfl | rfl | rfl | rfl | rfl | rfl | rfl | rfl | rfl | rfl | rfl | rfl
    · exact vl_0.mpr (vl_0.mp hv)
    · have hv := vl_1.mp hv; refine vl_1.mpr ?_; rw [hs] at hv; exact hv
    · have hv := vl_2.mp hv; refine vl_2.mpr ?_; rw [hAc, hs] at hv; exact hv
    · have hv := vl_3.mp hv; refine vl_3.mpr ?_; rw [hs] at hv; exact hv
    · have hv := vl_4.mp hv; refine vl_4.mpr ?_; rw [hs] at hv; exact hv
    · have hv := vl_5.mp hv; refine vl_5.mpr ?_; rw [hs] at hv; exact hv
    · have hv := vl_6.mp hv; refine vl_6.mpr ?_; rw [hs] at hv; exact hv
    · have hv := vl_7.mp hv; refine vl_7.mpr ?_; rw [hs] at hv; exact hv
    · have hv := vl_8.mp hv; refine vl_8.mpr ?_; rw [hs, c21 _ (fun e => z8 ⟨rfl, e⟩)] at hv; exact hv
    · have hv := vl_9.mp hv; refine vl_9.mpr ?_; rw [hs] at hv; exact hv
    · have hv := vl_10.mp hv; refine vl_10.mpr ?_; rw [c2 12 _ (by decide) (Or.inl (by decide)), hs] at hv; exact hv
    · exact vl_11.mpr (vl_11.mp hv)
    · exact vl_12.mpr (vl_12.mp hv)
    · exact vl_13.mpr (vl_13.mp hv)
    · exact vl_14.mpr (vl_14.mp hv)
    · exact vl_15.mpr (vl_15.mp hv)
    · exact vl_16.mpr (vl_16.mp hv)
    · have hv := vl_17.mp hv; refine vl_17.mpr ?_; rw [c2 54 _ (by decide) (Or.inl (by decide))] at hv; exact hv
  have hccM : ∀ k' i', vld A M k' i' → ¬ (k' = 8 ∧ i' / 20 = t) → ¬ (k' = 1 ∧ i' = t + 4) → ¬ (k' = 2 ∧ i' = t + 4) → cc G A M' k' i' = cc G A M k' i' := by
    intro k' i' hv' hn8 hn1 hn2
    have hk := vld_lt hv'
    rcases (by omega : k' = 0 ∨ k' = 1 ∨ k' = 2 ∨ k' = 3 ∨ k' = 4 ∨ k' = 5 ∨ k' = 6 ∨ k' = 7 ∨ k' = 8 ∨ k' = 9 ∨ k' = 10 ∨ k' = 11 ∨ k' = 12 ∨ k' = 13 ∨ k' = 14 ∨ k' = 15 ∨ k' = 16 ∨ k' = 17) with rfl | rfl | rfl | rfl | rfl | rfl | rfl | rfl | rfl | rfl | rfl | rfl | rfl | rfl | rfl | rfl | rfl | rfl
    · show cBd G A M' = cBd G A M; simp only [cBd, hs]
    · show cLs G A M' i' = cLs G A M i'; simp only [cLs, hln i' (fun e => hn1 ⟨rfl, e⟩)]
    · show cDt G A M' i' = cDt G A M i'; simp only [cDt, hln i' (fun e => hn2 ⟨rfl, e⟩)]
    · show cKp G A M' i' = cKp G A M i'; simp only [cKp, c2 3 i' (by decide) (Or.inl (by decide)), c2 4 i' (by decide) (Or.inl (by decide)), c2 5 i' (by decide) (Or.inl (by decide))]
    · show cWk G A M' i' = cWk G A M i'; simp only [cWk, c2 7 i' (by decide) (Or.inl (by decide)), c2 8 i' (by decide) (Or.inl (by decide)), c2 9 i' (by decide) (Or.inl (by decide)), c2 10 i' (by decide) (Or.inl (by decide))]
    · show cMr G A M' i' = cMr G A M i'; rfl
    · show cMm G A M' i' = cMm G A M i'; simp only [cMm, c2 29 i' (by decide) (Or.inl (by decide)), c2 30 i' (by decide) (Or.inl (by decide)), c2 31 i' (by decide) (Or.inl (by decide)), c2 32 i' (by decide) (Or.inl (by decide)), c3 33 i' (Or.inl (by decide)), c3 34 i' (Or.inl (by decide))]
    · show cTh G A M' i' = cTh G A M i'; simp only [cTh, tEx, lng, hs, c2 12 i' (by decide) (Or.inl (by decide)), c2 13 i' (by decide) (Or.inl (by decide)), c2 14 i' (by decide) (Or.inl (by decide)), c2 15 i' (by decide) (Or.inl (by decide)), c2 16 i' (by decide) (Or.inl (by decide)), c2 20 i' (by decide) (Or.inl (by decide)), c3 18 i' (Or.inl (by decide))]
    · show cGr G A M' i' = cGr G A M i'; simp only [cGr, c2 22 i' (by decide) (Or.inr (fun e => hn8 ⟨rfl, e⟩)), c2 23 i' (by decide) (Or.inr (fun e => hn8 ⟨rfl, e⟩)), c2 24 i' (by decide) (Or.inr (fun e => hn8 ⟨rfl, e⟩)), c3 25 i' (Or.inr (fun e => hn8 ⟨rfl, e⟩)), c3 26 i' (Or.inr (fun e => hn8 ⟨rfl, e⟩))]
    · show cLt G A M' i' = cLt G A M i'; simp only [cLt, c2 36 i' (by decide) (Or.inl (by decide)), c2 37 i' (by decide) (Or.inl (by decide)), c2 38 i' (by decide) (Or.inl (by decide)), c2 39 i' (by decide) (Or.inl (by decide)), c2 40 i' (by decide) (Or.inl (by decide)), c2 41 i' (by decide) (Or.inl (by decide)), c2 42 i' (by decide) (Or.inl (by decide)), c2 43 i' (by decide) (Or.inl (by decide)), c3 44 i' (Or.inl (by decide)), c3 45 i' (Or.inl (by decide))]
    · show cQu G A M' i' = cQu G A M i'; simp only [cQu, show ∀ q, M'.2.1 17 q = M.2.1 17 q from fun q => c2 17 q (by decide) (Or.inl (by decide))]
    · show cGo G A M' = cGo G A M; rfl
    · show cGs G A M' i' = cGs G A M i'; simp only [cGs, show ∀ q, M'.2.2 47 q = M.2.2 47 q from fun q => c3 47 q (Or.inl (by decide))]
    · show cWo G A M' = cWo G A M; rfl
    · show cWs G A M' i' = cWs G A M i'; simp only [cWs, show ∀ q, M'.2.2 48 q = M.2.2 48 q from fun q => c3 48 q (Or.inl (by decide))]
    · show cTo G A M' = cTo G A M; rfl
    · show cTr G A M' i' = cTr G A M i'; simp only [cTr, c2 54 i' (by decide) (Or.inl (by decide)), c2 55 i' (by decide) (Or.inl (by decide))]
    · show cRw G A M' i' = cRw G A M i'; simp only [cRw, c2 54 i' (by decide) (Or.inl (by decide)), c2 56 i' (by decide) (Or.inl (by decide)), show ∀ q, M'.2.2 57 q = M.2.2 57 q from fun q => c3 57 q (Or.inl (by decide))]
  -- the cells of a book whose grants of t have moved
  have hcc : ∀ k' i', vld A M k' i' → ¬ (k' = 8 ∧ i' / 20 = t) → ¬ (k' = 1 ∧ i' = t + 4) → ¬ (k' = 2 ∧ i' = t + 4) → cc G A' M' k' i' = cc G A M k' i' := by
    intro k' i' hv' hn8 hn1 hn2
    rw [← hccM k' i' hv' hn8 hn1 hn2]
    have hk := vld_lt hv'
    have e1 : ∀ k i, k ≠ 8 → A'.1 k i = A.1 k i := fun k i z => hAv k i (fun y => z y.1)
    have e1' : ∀ k, k ≠ 8 → A'.1 k = A.1 k := fun k z => funext fun i => e1 k i z
    rcases (by omega : k' = 0 ∨ k' = 1 ∨ k' = 2 ∨ k' = 3 ∨ k' = 4 ∨ k' = 5 ∨ k' = 6 ∨ k' = 7 ∨ k' = 8 ∨ k' = 9 ∨ k' = 10 ∨ k' = 11 ∨ k' = 12 ∨ k' = 13 ∨ k' = 14 ∨ k' = 15 ∨ k' = 16 ∨ k' = 17) with rfl | rfl | rfl | rfl | rfl | rfl | rfl | rfl | rfl | rfl | rfl | rfl | rfl | rfl | rfl | rfl | rfl | rfl
    · show cBd G A' M' = cBd G A M'; simp only [cBd, e1' 1 (by decide), e1' 11 (by decide), e1' 13 (by decide), e1' 15 (by decide)]
    · show cLs G A' M' i' = cLs G A M' i'; simp only [cLs, e1' 2 (by decide), hAc, hAm, fu_n A.2.2.1 (A.2.2.1 (t + 4) + 1) (fun e => hn1 ⟨rfl, e⟩)]
    · show cDt G A' M' i' = cDt G A M' i'
      unfold cDt
      rw [hAc]
      refine congrArg (aR 3 _) (lstF_congr fun i hi => ?_)
      match i' with
      | 0 => exact e1 3 i (by decide)
      | 1 => exact e1 4 i (by decide)
      | 2 => exact e1 7 i (by decide)
      | 3 => exact e1 9 i (by decide)
      | t' + 4 =>
        have hv' := (vl_2.mp hv').1
        have h20 := hT.1 t' (by omega)
        have hne : t' ≠ t := fun e => hn2 ⟨rfl, by rw [e]⟩
        rw [hln (t' + 4) (by omega)] at hi
        have hi : i < nx (M.2.1 21 t') := hi
        exact hAv 8 (20 * t' + i) (fun y => hne (by omega))
    · show cKp G A' M' i' = cKp G A M' i'; unfold cKp; rfl
    · show cWk G A' M' i' = cWk G A M' i'; simp only [cWk, e1' 5 (by decide)]
    · show cMr G A' M' i' = cMr G A M' i'; simp only [cMr, e1' 6 (by decide)]
    · show cMm G A' M' i' = cMm G A M' i'; unfold cMm; rfl
    · show cTh G A' M' i' = cTh G A M' i'; simp only [cTh, tEx, e1' 1 (by decide), e1' 10 (by decide), hAz]
    · show cGr G A' M' i' = cGr G A M' i'; unfold cGr; rfl
    · show cLt G A' M' i' = cLt G A M' i'; unfold cLt; rfl
    · show cQu G A' M' i' = cQu G A M' i'; unfold cQu; rfl
    · show cGo G A' M' = cGo G A M'; simp only [cGo, e1' 12 (by decide)]
    · show cGs G A' M' i' = cGs G A M' i'; unfold cGs; rfl
    · show cWo G A' M' = cWo G A M'; simp only [cWo, e1' 14 (by decide)]
    · show cWs G A' M' i' = cWs G A M' i'; unfold cWs; rfl
    · show cTo G A' M' = cTo G A M'; simp only [cTo, e1' 16 (by decide)]
    · show cTr G A' M' i' = cTr G A M' i'; simp only [cTr, e1' 7 (by decide), e1' 9 (by decide), e1' 17 (by decide)]
    · show cRw G A' M' i' = cRw G A M' i'; unfold cRw; rfl
  have v1 : vld A M 1 (t + 4) := hll
  have v2 : vld A M 2 (t + 4) := ⟨hll, hcap0⟩
  obtain ⟨r1, r2, r3, r4, r5, r6⟩ := hR
  refine ⟨A', ⟨fun k i hv => ?_, fun k i k' i' hv hv' e => ?_, fun b x hb => ?_, r4, fun i hi => ?_, fun t' ht' hn9 => ?_⟩, fun k i _ h8 hv => hAv k i (fun z => h8 z.1), hAz⟩
  · rcases hvv k i hv with ⟨z1, z2⟩ | ⟨rfl, q, hq, rfl⟩
    · rw [hAv k i z2]
      by_cases k1 : k = 1 ∧ i = t + 4
      · obtain ⟨rfl, rfl⟩ := k1
        rw [q2]
        show _ = some (cLs G A' M' (t + 4))
        unfold cLs
        rw [hAc, hAm, fu_s, if_neg hcap0, hAv 2 _ (fun z => by omega), hlen']
      · by_cases k2 : k = 2 ∧ i = t + 4
        · obtain ⟨rfl, rfl⟩ := k2
          rw [q1]
          show _ = some (cDt G A' M' (t + 4))
          unfold cDt
          rw [hAc, hlen']
          refine congrArg (fun z => some (aR 3 _ z)) (lstF_congr fun i hi => ?_).symm
          show A'.1 8 (20 * t + i) = shl (fun i => A.1 8 (20 * t + i)) a i
          rw [hA8 i (by omega)]
          unfold shl
          by_cases z : i < a
          · rw [if_pos z, if_pos z]
          · rw [if_neg z, if_neg z]
        · rw [q3 _ (fun e => k1 (r2 k i 1 (t + 4) z1 v1 e)) (fun e => k2 (r2 k i 2 (t + 4) z1 v2 e)), r1 k i z1, hcc k i z1 z2 k1 k2]
    · rw [hA8 q (by omega)]
      have vq : vld A M 8 (20 * t + (if q < a then q else q + 1)) := vg _ (by split <;> omega)
      rw [q3 _ (fun e => by have := (r2 _ _ _ _ vq v1 e).1; omega) (fun e => by have := (r2 _ _ _ _ vq v2 e).1; omega), r1 _ _ vq]
      show some (cGr G A M (20 * t + (if q < a then q else q + 1))) = some (cGr G A' M' (20 * t + q))
      unfold cGr
      rw [s2 22 q (by decide) hq, s2 23 q (by decide) hq, s2 24 q (by decide) hq, s3 25 q (by decide) hq, s3 26 q (by decide) hq]
  · rcases hvv k i hv with ⟨z1, z2⟩ | ⟨rfl, q, hq, rfl⟩
    · rw [hAv k i z2] at e
      rcases hvv k' i' hv' with ⟨y1, y2⟩ | ⟨rfl, q', hq', rfl⟩
      · rw [hAv k' i' y2] at e; exact r2 k i k' i' z1 y1 e
      · rw [hA8 q' (by omega)] at e
        obtain ⟨x1, x2⟩ := r2 _ _ _ _ z1 (vg (if q' < a then q' else q' + 1) (by split <;> omega)) e
        exact absurd ⟨x1, by rw [x2]; split <;> omega⟩ z2
    · rw [hA8 q (by omega)] at e
      rcases hvv k' i' hv' with ⟨y1, y2⟩ | ⟨rfl, q', hq', rfl⟩
      · rw [hAv k' i' y2] at e
        obtain ⟨x1, x2⟩ := r2 _ _ _ _ (vg (if q < a then q else q + 1) (by split <;> omega)) y1 e
        exact absurd ⟨x1.symm, by rw [← x2]; split <;> omega⟩ y2
      · rw [hA8 q' (by omega)] at e
        obtain ⟨-, x2⟩ := r2 _ _ _ _ (vg (if q < a then q else q + 1) (by split <;> omega)) (vg (if q' < a then q' else q' + 1) (by split <;> omega)) e
        refine ⟨rfl, ?_⟩
        split at x2 <;> split at x2 <;> omega
  · obtain ⟨p1, p2⟩ := r3 b x hb
    refine ⟨by rw [q3 b (fun z => p2 1 _ v1 z.symm) (fun z => p2 2 _ v2 z.symm)]; exact p1, fun k i hv => ?_⟩
    rcases hvv k i hv with ⟨z1, z2⟩ | ⟨rfl, q, hq, rfl⟩
    · rw [hAv k i z2]; exact p2 k i z1
    · rw [hA8 q (by omega)]; exact p2 8 _ (vg _ (by split <;> omega))
  · rw [hs] at hi
    rw [hAc]
    by_cases z : i = t + 4
    · rw [z, hlen']; have := r5 _ hll; omega
    · rw [hln i z]; exact r5 i hi
  · rw [c2 20 t' (by decide) (Or.inl (by decide))] at hn9
    rw [hs] at ht'
    rw [hAz, c3 19 t' (Or.inl (by decide))]
    exact r6 t' ht' hn9
end RH5
