/-! ===== the relation: a keeper, a letter, a grant more ===== -/
section RH4
variable {G : WG} {hp hp0 h h' : Hp} {A A' B : AD} {M M' : MS}
theorem vl_0 {i : Nat} : vld A M 0 i ↔ i = 0 := Iff.rfl
theorem vl_1 {i : Nat} : vld A M 1 i ↔ i < 4 + nx (M.1 11) := Iff.rfl
theorem vl_2 {i : Nat} : vld A M 2 i ↔ i < 4 + nx (M.1 11) ∧ A.2.1 i ≠ 0 := Iff.rfl
theorem vl_3 {i : Nat} : vld A M 3 i ↔ i < nx (M.1 2) := Iff.rfl
theorem vl_4 {i : Nat} : vld A M 4 i ↔ i < nx (M.1 6) := Iff.rfl
theorem vl_5 {i : Nat} : vld A M 5 i ↔ i < nx (M.1 6) := Iff.rfl
theorem vl_6 {i : Nat} : vld A M 6 i ↔ i < 20 * nx (M.1 6) := Iff.rfl
theorem vl_7 {i : Nat} : vld A M 7 i ↔ i < nx (M.1 11) := Iff.rfl
theorem vl_8 {i : Nat} : vld A M 8 i ↔ i / 20 < nx (M.1 11) ∧ i % 20 < nx (M.2.1 21 (i / 20)) := Iff.rfl
theorem vl_9 {i : Nat} : vld A M 9 i ↔ i < nx (M.1 35) := Iff.rfl
theorem vl_10 {i : Nat} : vld A M 10 i ↔ i < nx (M.1 11) ∧ M.2.1 12 i = 4 := Iff.rfl
theorem vl_11 {i : Nat} : vld A M 11 i ↔ i = 0 := Iff.rfl
theorem vl_12 {i : Nat} : vld A M 12 i ↔ i < 6 := Iff.rfl
theorem vl_13 {i : Nat} : vld A M 13 i ↔ i = 0 := Iff.rfl
theorem vl_14 {i : Nat} : vld A M 14 i ↔ i < 6 := Iff.rfl
theorem vl_15 {i : Nat} : vld A M 15 i ↔ i = 0 := Iff.rfl
theorem vl_16 {i : Nat} : vld A M 16 i ↔ i < 6 := Iff.rfl
theorem vl_17 {i : Nat} : vld A M 17 i ↔ i < 6 ∧ (M.2.1 54 i = 3 ∨ M.2.1 54 i = 4) := Iff.rfl
/-- what ArrayList.add leaves -/
def added (G : WG) (A : AD) (M : MS) (h h' : Hp) (ll e b n' : Nat) : Prop := ((b = (if A.2.1 ll = 0 then gE G else A.1 2 ll) ∧ n' = A.2.1 ll ∧ len M ll < A.2.1 ll) ∨ (h b = none ∧ len M ll < n' ∧ n' ≤ 600)) ∧ h' b = some (aR 3 n' (lstF (len M ll + 1) (fu (elt A ll) (len M ll) e))) ∧ h' (A.1 1 ll) = some (oB 0 [.int (A.2.2.1 ll + 1), .ref b, .int (nI (len M ll + 1))]) ∧ ∀ q, q ≠ A.1 1 ll → q ≠ b → h' q = h q
theorem added.b {ll e b n' : Nat} (h9 : added G A M h h' ll e b n') : (b = (if A.2.1 ll = 0 then gE G else A.1 2 ll) ∧ A.2.1 ll ≠ 0) ∨ h b = none := by
  rcases h9.1 with ⟨z1, -, z3⟩ | z
  · exact Or.inl ⟨z1, by omega⟩
  · exact Or.inr z.1
theorem added.n (hR : RH G hp A M h) {ll e b n' : Nat} (hl : ll < 4 + nx (M.1 11)) (h9 : added G A M h h' ll e b n') : len M ll < n' ∧ n' ≤ 600 := by
  rcases h9.1 with ⟨-, z2, z3⟩ | z
  · have := (hR.cap hl).2; omega
  · exact z.2
theorem RH.addL (hR : RH G hp0 A M h) (hT : tidy M) {L : Nat} (hL : M.1 35 = nI L) (hL4 : L < 400) {e b n' : Nat} (hs : ∀ f, f ≠ 35 → M'.1 f = M.1 f) (h35 : M'.1 35 = nI (L + 1)) (c2 : ∀ f i, f ∉ ([36, 37, 38, 39, 40, 41, 42, 43] : List Nat) ∨ i ≠ L → M'.2.1 f i = M.2.1 f i) (c3 : ∀ f i, f ∉ ([44, 45] : List Nat) ∨ i ≠ L → M'.2.2 f i = M.2.2 f i) (he : hp0 e = some (cLt G A M' L)) (h9 : added G A M h h' 3 e b n') (hhp : ∀ a x, hp a = some x → hp0 a = some x ∧ a ≠ e) (hg : hp (gE G) = some e_nil) :
    ∃ A', RH G hp A' M' h' ∧ ext A M A' ∧ A'.1 9 L = e ∧ A'.2.2.2 = A.2.2.2 := by
  have hLx : nx (M.1 35) = L := by rw [hL]; exact nx_nI (by omega)
  have hLx' : nx (M'.1 35) = L + 1 := by rw [h35]; exact nx_nI (by omega)
  have hll : 3 < 4 + nx (M.1 11) := by omega
  have hlen : len M 3 = L := hLx
  have hlen' : len M' 3 = L + 1 := hLx'
  have hln : ∀ q, q ≠ 3 → len M' q = len M q := fun q hq => by
    match q with
    | 0 => show nx (M'.1 2) = nx (M.1 2); rw [hs 2 (by decide)]
    | 1 => show nx (M'.1 6) = nx (M.1 6); rw [hs 6 (by decide)]
    | 2 => show nx (M'.1 11) = nx (M.1 11); rw [hs 11 (by decide)]
    | 3 => exact absurd rfl hq
    | t + 4 => show nx (M'.2.1 21 t) = nx (M.2.1 21 t); rw [c2 21 t (Or.inl (by decide))]
  have e11 : M'.1 11 = M.1 11 := hs 11 (by decide)
  have hn := h9.n hR hll
  generalize hA' : aAdd A 3 b n' (fun k i => if k = 9 ∧ i = L then some e else none) = A'
  have hAv : ∀ k i, ¬ (k = 9 ∧ i = L) → ¬ (k = 2 ∧ i = 3) → A'.1 k i = A.1 k i := fun k i z1 z2 => by rw [← hA']; simp only [aAdd, z1, z2, if_false]
  have hAe : A'.1 9 L = e := by rw [← hA']; simp [aAdd]
  have hAb : A'.1 2 3 = b := by rw [← hA']; simp [aAdd]
  have hAc : A'.2.1 = fu A.2.1 3 n' := by rw [← hA']; rfl
  have hAm : A'.2.2.1 = fu A.2.2.1 3 (A.2.2.1 3 + 1) := by rw [← hA']; rfl
  have hAz : A'.2.2.2 = A.2.2.2 := by rw [← hA']; rfl
  have hold : ∀ k i, vld A M k i → ¬ (k = 9 ∧ i = L) := by
    rintro k i hv ⟨rfl, rfl⟩
    have hv : i < nx (M.1 35) := hv
    omega
  refine ⟨A', ?_, fun k i h1 _ hv => hAv k i (hold k i hv) (fun z => h1 z.1), hAe, hAz⟩
  refine hR.add hll (fun k i => k = 9 ∧ i = L) h9.b (fun k i hv => ?_) (fun k i hv hne => hAv k i (hold k i hv) hne) hAb (fun k i hv n1 n2 => ?_) ?_ (fun k i k' i' z z' _ => ⟨by omega, by omega⟩) ?_ ?_ h9.2.2.2 (fun a x ha => ⟨(hhp a x ha).1, fun k i z => by rw [z.1, z.2, hAe]; exact Ne.symm (hhp a x ha).2⟩) hg (fun i hi => ?_) (fun t ht hn9 => ?_)
  · have hk := vld_lt hv
    by_cases z2 : k = 2 ∧ i = 3
    · exact Or.inr (Or.inl z2)
    by_cases z9 : k = 9 ∧ i = L
    · exact Or.inr (Or.inr z9)
    refine Or.inl ⟨?_, z2⟩
    rcases (by omega : k = 0 ∨ k = 1 ∨ k = 2 ∨ k = 3 ∨ k = 4 ∨ k = 5 ∨ k = 6 ∨ k = 7 ∨ k = 8 ∨ k = 9 ∨ k = 10 ∨ k = 11 ∨ k = 12 ∨ k = 13 ∨ k = 14 ∨ k = 15 ∨ k = 16 ∨ k = 17) with rfl | rfl | rfl | rfl | rfl | rfl | rfl | rfl | rfl | rfl | rfl | rfl | rfl | rfl | rfl | rfl | rfl | rfl
    · exact vl_0.mpr (vl_0.mp hv)
    · have hv := vl_1.mp hv; refine vl_1.mpr ?_; rw [e11] at hv; exact hv
    · have hv := vl_2.mp hv; refine vl_2.mpr ?_; rw [hAc, fu_n _ _ (fun e => z2 ⟨rfl, e⟩), e11] at hv; exact hv
    · have hv := vl_3.mp hv; refine vl_3.mpr ?_; rw [hs 2 (by decide)] at hv; exact hv
    · have hv := vl_4.mp hv; refine vl_4.mpr ?_; rw [hs 6 (by decide)] at hv; exact hv
    · have hv := vl_5.mp hv; refine vl_5.mpr ?_; rw [hs 6 (by decide)] at hv; exact hv
    · have hv := vl_6.mp hv; refine vl_6.mpr ?_; rw [hs 6 (by decide)] at hv; exact hv
    · have hv := vl_7.mp hv; refine vl_7.mpr ?_; rw [e11] at hv; exact hv
    · have hv := vl_8.mp hv; refine vl_8.mpr ?_; rw [c2 21 _ (Or.inl (by decide)), e11] at hv; exact hv
    · have hv := vl_9.mp hv; refine vl_9.mpr ?_; rw [hLx'] at hv; rw [hLx]; have : i ≠ L := fun e => z9 ⟨rfl, e⟩; omega
    · have hv := vl_10.mp hv; refine vl_10.mpr ?_; rw [c2 12 _ (Or.inl (by decide)), e11] at hv; exact hv
    · exact vl_11.mpr (vl_11.mp hv)
    · exact vl_12.mpr (vl_12.mp hv)
    · exact vl_13.mpr (vl_13.mp hv)
    · exact vl_14.mpr (vl_14.mp hv)
    · exact vl_15.mpr (vl_15.mp hv)
    · exact vl_16.mpr (vl_16.mp hv)
    · have hv := vl_17.mp hv; refine vl_17.mpr ?_; rw [c2 54 _ (Or.inl (by decide))] at hv; exact hv
  · rw [ccM_L (B := A) hs c2 c3 hLx.symm k i hv n1 n2]
    exact ccA hT 3 (fun k i hv hne => hAv k i (hold k i hv) hne) (fun i hi _ => ⟨by rw [hAc, fu_n _ _ hi], by rw [hAm, fu_n _ _ hi]⟩) (fun t _ => by rw [hAz]) k i hv n1 n2
  · rintro k i ⟨rfl, rfl⟩
    rw [hAe]; exact he
  · rw [h9.2.2.1]
    show _ = some (cLs G A' M' 3)
    unfold cLs
    rw [hAc, hAm, fu_s, fu_s, if_neg (by omega), hAb, hlen', hlen]
  · rw [h9.2.1]
    show _ = some (cDt G A' M' 3)
    unfold cDt
    rw [hAc, fu_s, hlen', hlen]
    refine congrArg (fun z => some (aR 3 n' z)) (lstF_congr fun i hi => ?_).symm
    show A'.1 9 i = fu (A.1 9) L e i
    by_cases z : i = L
    · rw [z, hAe, fu_s]
    · rw [fu_n _ _ z, hAv 9 i (fun y => z y.2) (fun y => by omega)]
  · rw [e11] at hi
    rw [hAc]
    by_cases z : i = 3
    · rw [z, fu_s, hlen']; omega
    · rw [fu_n _ _ z, hln i z]; exact hR.cap hi
  · rw [c2 20 t (Or.inl (by decide))] at hn9
    rw [e11] at ht
    rw [hAz, c3 19 t (Or.inl (by decide))]
    exact hR.2.2.2.2.2 t ht hn9
theorem RH.addK (hR : RH G hp0 A M h) (hT : tidy M) {K : Nat} (hL : M.1 2 = nI K) (hL4 : K < 5) {e b n' : Nat} (hs : ∀ f, f ≠ 2 → M'.1 f = M.1 f) (h35 : M'.1 2 = nI (K + 1)) (c2 : ∀ f i, f ∉ ([3, 4, 5] : List Nat) ∨ i ≠ K → M'.2.1 f i = M.2.1 f i) (c3 : ∀ f i, f ∉ ([] : List Nat) ∨ i ≠ K → M'.2.2 f i = M.2.2 f i) (he : hp0 e = some (cKp G A M' K)) (h9 : added G A M h h' 0 e b n') (hhp : ∀ a x, hp a = some x → hp0 a = some x ∧ a ≠ e) (hg : hp (gE G) = some e_nil) :
    ∃ A', RH G hp A' M' h' ∧ ext A M A' ∧ A'.1 3 K = e ∧ A'.2.2.2 = A.2.2.2 := by
  have hLx : nx (M.1 2) = K := by rw [hL]; exact nx_nI (by omega)
  have hLx' : nx (M'.1 2) = K + 1 := by rw [h35]; exact nx_nI (by omega)
  have hll : 0 < 4 + nx (M.1 11) := by omega
  have hlen : len M 0 = K := hLx
  have hlen' : len M' 0 = K + 1 := hLx'
  have hln : ∀ q, q ≠ 0 → len M' q = len M q := fun q hq => by
    match q with
    | 0 => exact absurd rfl hq
    | 1 => show nx (M'.1 6) = nx (M.1 6); rw [hs 6 (by decide)]
    | 2 => show nx (M'.1 11) = nx (M.1 11); rw [hs 11 (by decide)]
    | 3 => show nx (M'.1 35) = nx (M.1 35); rw [hs 35 (by decide)]
    | t + 4 => show nx (M'.2.1 21 t) = nx (M.2.1 21 t); rw [c2 21 t (Or.inl (by decide))]
  have e11 : M'.1 11 = M.1 11 := hs 11 (by decide)
  have hn := h9.n hR hll
  generalize hA' : aAdd A 0 b n' (fun k i => if k = 3 ∧ i = K then some e else none) = A'
  have hAv : ∀ k i, ¬ (k = 3 ∧ i = K) → ¬ (k = 2 ∧ i = 0) → A'.1 k i = A.1 k i := fun k i z1 z2 => by rw [← hA']; simp only [aAdd, z1, z2, if_false]
  have hAe : A'.1 3 K = e := by rw [← hA']; simp [aAdd]
  have hAb : A'.1 2 0 = b := by rw [← hA']; simp [aAdd]
  have hAc : A'.2.1 = fu A.2.1 0 n' := by rw [← hA']; rfl
  have hAm : A'.2.2.1 = fu A.2.2.1 0 (A.2.2.1 0 + 1) := by rw [← hA']; rfl
  have hAz : A'.2.2.2 = A.2.2.2 := by rw [← hA']; rfl
  have hold : ∀ k i, vld A M k i → ¬ (k = 3 ∧ i = K) := by
    rintro k i hv ⟨rfl, rfl⟩
    have hv : i < nx (M.1 2) := hv
    omega
  refine ⟨A', ?_, fun k i h1 _ hv => hAv k i (hold k i hv) (fun z => h1 z.1), hAe, hAz⟩
  refine hR.add hll (fun k i => k = 3 ∧ i = K) h9.b (fun k i hv => ?_) (fun k i hv hne => hAv k i (hold k i hv) hne) hAb (fun k i hv n1 n2 => ?_) ?_ (fun k i k' i' z z' _ => ⟨by omega, by omega⟩) ?_ ?_ h9.2.2.2 (fun a x ha => ⟨(hhp a x ha).1, fun k i z => by rw [z.1, z.2, hAe]; exact Ne.symm (hhp a x ha).2⟩) hg (fun i hi => ?_) (fun t ht hn9 => ?_)
  · have hk := vld_lt hv
    by_cases z2 : k = 2 ∧ i = 0
    · exact Or.inr (Or.inl z2)
    by_cases z9 : k = 3 ∧ i = K
    · exact Or.inr (Or.inr z9)
    refine Or.inl ⟨?_, z2⟩
    rcases (by omega : k = 0 ∨ k = 1 ∨ k = 2 ∨ k = 3 ∨ k = 4 ∨ k = 5 ∨ k = 6 ∨ k = 7 ∨ k = 8 ∨ k = 9 ∨ k = 10 ∨ k = 11 ∨ k = 12 ∨ k = 13 ∨ k = 14 ∨ k = 15 ∨ k = 16 ∨ k = 17) with rfl | rfl | rfl | rfl | rfl | rfl | rfl | rfl | rfl | rfl | rfl | rfl | rfl | rfl | rfl | rfl | rfl | rfl
    · exact vl_0.mpr (vl_0.mp hv)
    · have hv := vl_1.mp hv; refine vl_1.mpr ?_; rw [e11] at hv; exact hv
    · have hv := vl_2.mp hv; refine vl_2.mpr ?_; rw [hAc, fu_n _ _ (fun e => z2 ⟨rfl, e⟩), e11] at hv; exact hv
    · have hv := vl_3.mp hv; refine vl_3.mpr ?_; rw [hLx'] at hv; rw [hLx]; have : i ≠ K := fun e => z9 ⟨rfl, e⟩; omega
    · have hv := vl_4.mp hv; refine vl_4.mpr ?_; rw [hs 6 (by decide)] at hv; exact hv
    · have hv := vl_5.mp hv; refine vl_5.mpr ?_; rw [hs 6 (by decide)] at hv; exact hv
    · have hv := vl_6.mp hv; refine vl_6.mpr ?_; rw [hs 6 (by decide)] at hv; exact hv
    · have hv := vl_7.mp hv; refine vl_7.mpr ?_; rw [e11] at hv; exact hv
    · have hv := vl_8.mp hv; refine vl_8.mpr ?_; rw [c2 21 _ (Or.inl (by decide)), e11] at hv; exact hv
    · have hv := vl_9.mp hv; refine vl_9.mpr ?_; rw [hs 35 (by decide)] at hv; exact hv
    · have hv := vl_10.mp hv; refine vl_10.mpr ?_; rw [c2 12 _ (Or.inl (by decide)), e11] at hv; exact hv
    · exact vl_11.mpr (vl_11.mp hv)
    · exact vl_12.mpr (vl_12.mp hv)
    · exact vl_13.mpr (vl_13.mp hv)
    · exact vl_14.mpr (vl_14.mp hv)
    · exact vl_15.mpr (vl_15.mp hv)
    · exact vl_16.mpr (vl_16.mp hv)
    · have hv := vl_17.mp hv; refine vl_17.mpr ?_; rw [c2 54 _ (Or.inl (by decide))] at hv; exact hv
  · rw [ccM_K (B := A) hs c2 c3 hLx.symm k i hv n1 n2]
    exact ccA hT 0 (fun k i hv hne => hAv k i (hold k i hv) hne) (fun i hi _ => ⟨by rw [hAc, fu_n _ _ hi], by rw [hAm, fu_n _ _ hi]⟩) (fun t _ => by rw [hAz]) k i hv n1 n2
  · rintro k i ⟨rfl, rfl⟩
    rw [hAe]; exact he
  · rw [h9.2.2.1]
    show _ = some (cLs G A' M' 0)
    unfold cLs
    rw [hAc, hAm, fu_s, fu_s, if_neg (by omega), hAb, hlen', hlen]
  · rw [h9.2.1]
    show _ = some (cDt G A' M' 0)
    unfold cDt
    rw [hAc, fu_s, hlen', hlen]
    refine congrArg (fun z => some (aR 3 n' z)) (lstF_congr fun i hi => ?_).symm
    show A'.1 3 i = fu (A.1 3) K e i
    by_cases z : i = K
    · rw [z, hAe, fu_s]
    · rw [fu_n _ _ z, hAv 3 i (fun y => z y.2) (fun y => by omega)]
  · rw [e11] at hi
    rw [hAc]
    by_cases z : i = 0
    · rw [z, fu_s, hlen']; omega
    · rw [fu_n _ _ z, hln i z]; exact hR.cap hi
  · rw [c2 20 t (Or.inl (by decide))] at hn9
    rw [e11] at ht
    rw [hAz, c3 19 t (Or.inl (by decide))]
    exact hR.2.2.2.2.2 t ht hn9
end RH4
