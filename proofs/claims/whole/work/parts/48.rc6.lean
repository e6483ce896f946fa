/-! ===== the relation: a worker more, a thing more ===== -/
section RH6
variable {G : WG} {hp hp0 h h' : Hp} {A A' B : AD} {M M' : MS}
theorem RH.addW (hR : RH G hp0 A M h) (hT : tidy M) {W : Nat} (hL : M.1 6 = nI W) (hL4 : W < 20) {e r b n' : Nat} {m : Nat → Nat} (hs : ∀ f, f ≠ 6 → M'.1 f = M.1 f) (h35 : M'.1 6 = nI (W + 1)) (c2 : ∀ f i, f ∉ ([7, 8, 10] : List Nat) ∨ i ≠ W → M'.2.1 f i = M.2.1 f i) (c3 : M'.2.2 = M.2.2) (he : hp0 e = some (oB 11 [.int (M'.2.1 7 W), .int (M'.2.1 8 W), .int (M'.2.1 10 W), .ref r, .int (M'.2.1 9 W)])) (hr : hp0 r = some (aR 4 20 (lstF 20 m))) (hm : ∀ t, t < 20 → hp0 (m t) = some (cMm G A M' (20 * W + t))) (hmi : ∀ t t', t < 20 → t' < 20 → m t = m t' → t = t') (h9 : added G A M h h' 1 e b n') (hhp : ∀ a x, hp a = some x → hp0 a = some x ∧ a ≠ e ∧ a ≠ r ∧ ∀ t, t < 20 → a ≠ m t) (hg : hp (gE G) = some e_nil) :
    ∃ A', RH G hp A' M' h' ∧ ext A M A' ∧ A'.2.2.2 = A.2.2.2 := by
  have hLx : nx (M.1 6) = W := by rw [hL]; exact nx_nI (by omega)
  have hLx' : nx (M'.1 6) = W + 1 := by rw [h35]; exact nx_nI (by omega)
  have hll : 1 < 4 + nx (M.1 11) := by omega
  have hlen : len M 1 = W := hLx
  have hlen' : len M' 1 = W + 1 := hLx'
  have hln : ∀ q, q ≠ 1 → len M' q = len M q := fun q hq => by
    match q with
    | 0 => show nx (M'.1 2) = nx (M.1 2); rw [hs 2 (by decide)]
    | 1 => exact absurd rfl hq
    | 2 => show nx (M'.1 11) = nx (M.1 11); rw [hs 11 (by decide)]
    | 3 => show nx (M'.1 35) = nx (M.1 35); rw [hs 35 (by decide)]
    | t + 4 => show nx (M'.2.1 21 t) = nx (M.2.1 21 t); rw [c2 21 t (Or.inl (by decide))]
  have e11 : M'.1 11 = M.1 11 := hs 11 (by decide)
  have hn := h9.n hR hll
  generalize hA' : aAdd A 1 b n' (fun k i => if k = 4 ∧ i = W then some e else if k = 5 ∧ i = W then some r else if k = 6 ∧ 20 * W ≤ i then some (m (i - 20 * W)) else none) = A'
  have hAv : ∀ k i, ¬ (k = 4 ∧ i = W) → ¬ (k = 5 ∧ i = W) → ¬ (k = 6 ∧ 20 * W ≤ i) → ¬ (k = 2 ∧ i = 1) → A'.1 k i = A.1 k i := fun k i z1 z2 z3 z4 => by rw [← hA']; simp only [aAdd, z1, z2, z3, z4, if_false]
  have hAe : A'.1 4 W = e := by rw [← hA']; simp [aAdd]
  have hAr : A'.1 5 W = r := by rw [← hA']; simp [aAdd]
  have hAg : ∀ t, A'.1 6 (20 * W + t) = m t := fun t => by rw [← hA']; simp [aAdd]
  have hAb : A'.1 2 1 = b := by rw [← hA']; simp [aAdd]
  have hAc : A'.2.1 = fu A.2.1 1 n' := by rw [← hA']; rfl
  have hAm : A'.2.2.1 = fu A.2.2.1 1 (A.2.2.1 1 + 1) := by rw [← hA']; rfl
  have hAz : A'.2.2.2 = A.2.2.2 := by rw [← hA']; rfl
  have hold : ∀ k i, vld A M k i → ¬ (k = 4 ∧ i = W) ∧ ¬ (k = 5 ∧ i = W) ∧ ¬ (k = 6 ∧ 20 * W ≤ i) := by
    intro k i hv
    refine ⟨?_, ?_, ?_⟩
    · rintro ⟨rfl, rfl⟩
      have hv := vl_4.mp hv
      omega
    · rintro ⟨rfl, rfl⟩
      have hv := vl_5.mp hv
      omega
    · rintro ⟨rfl, z⟩
      have hv := vl_6.mp hv
      rw [hLx] at hv
      omega
  have hAo : ∀ k i, vld A M k i → ¬ (k = 2 ∧ i = 1) → A'.1 k i = A.1 k i := fun k i hv hne => hAv k i (hold k i hv).1 (hold k i hv).2.1 (hold k i hv).2.2 hne
  have nwc : ∀ k i, (k = 4 ∧ i = W) ∨ (k = 5 ∧ i = W) ∨ (k = 6 ∧ ∃ t, t < 20 ∧ i = 20 * W + t) → hp0 (A'.1 k i) = some (cc G A' M' k i) := by
    rintro k i (⟨rfl, rfl⟩ | ⟨rfl, rfl⟩ | ⟨rfl, t, ht, rfl⟩)
    · rw [hAe, he]; show _ = some (cWk G A' M' i); unfold cWk; rw [hAr]
    · rw [hAr, hr]
      show _ = some (cMr G A' M' i)
      unfold cMr
      exact congrArg (fun z => some (aR 4 20 z)) (lstF_congr fun t _ => hAg t).symm
    · rw [hAg]; exact hm t ht
  refine ⟨A', ?_, fun k i h1 _ hv => hAo k i hv (fun z => h1 z.1), hAz⟩
  refine hR.add hll (fun k i => (k = 4 ∧ i = W) ∨ (k = 5 ∧ i = W) ∨ (k = 6 ∧ ∃ t, t < 20 ∧ i = 20 * W + t)) h9.b (fun k i hv => ?_) hAo hAb (fun k i hv n1 n2 => ?_) nwc (fun k i k' i' z z' e9 => ?_) ?_ ?_ h9.2.2.2 (fun a x ha => ⟨(hhp a x ha).1, fun k i z => ?_⟩) hg (fun i hi => ?_) (fun t ht hn9 => ?_)
  · have hk := vld_lt hv
    by_cases z2 : k = 2 ∧ i = 1
    · exact Or.inr (Or.inl z2)
    by_cases z9 : (k = 4 ∧ i = W) ∨ (k = 5 ∧ i = W) ∨ (k = 6 ∧ ∃ t, t < 20 ∧ i = 20 * W + t)
    · exact Or.inr (Or.inr z9)
    refine Or.inl ⟨?_, z2⟩
    rcases (by omega : k = 0 ∨ k = 1 ∨ k = 2 ∨ k = 3 ∨ k = 4 ∨ k = 5 ∨ k = 6 ∨ k = 7 ∨ k = 8 ∨ k = 9 ∨ k = 10 ∨ k = 11 ∨ k = 12 ∨ k = 13 ∨ k = 14 ∨ k = 15 ∨ k = 16 ∨ k = 17) with rfl | rfl | rfl | rfl | rfl | rfl | rfl | rfl | rfl | rfl | rfl | rfl | rfl | rfl | rfl | rfl | rfl | rfl
    · exact vl_0.mpr (vl_0.mp hv)
    · have hv := vl_1.mp hv; refine vl_1.mpr ?_; rw [e11] at hv; exact hv
    · have hv := vl_2.mp hv; refine vl_2.mpr ?_; rw [hAc, fu_n _ _ (fun e => z2 ⟨rfl, e⟩), e11] at hv; exact hv
    · have hv := vl_3.mp hv; refine vl_3.mpr ?_; rw [hs 2 (by decide)] at hv; exact hv
    · have hv := vl_4.mp hv; refine vl_4.mpr ?_; rw [hLx'] at hv; rw [hLx]; have : i ≠ W := fun e => z9 (Or.inl ⟨rfl, e⟩); omega
    · have hv := vl_5.mp hv; refine vl_5.mpr ?_; rw [hLx'] at hv; rw [hLx]; have : i ≠ W := fun e => z9 (Or.inr (Or.inl ⟨rfl, e⟩)); omega
    · have hv := vl_6.mp hv; refine vl_6.mpr ?_; rw [hLx'] at hv; rw [hLx]
      rcases Nat.lt_or_ge i (20 * W) with z | z
      · exact z
      · exact absurd (Or.inr (Or.inr ⟨rfl, i - 20 * W, by omega, by omega⟩)) z9
    · have hv := vl_7.mp hv; refine vl_7.mpr ?_; rw [e11] at hv; exact hv
    · have hv := vl_8.mp hv; refine vl_8.mpr ?_; rw [c2 21 _ (Or.inl (by decide)), e11] at hv; exact hv
    · have hv := vl_9.mp hv; refine vl_9.mpr ?_; rw [hs 35 (by decide)] at hv; exact hv
    · have hv := vl_10.mp hv; refine vl_10.mpr ?_; rw [c2 12 _ (Or.inl (by decide)), e11] at hv; exact hv
    · exact vl_11.mpr (vl_11.mp hv)
    · exact vl_12.mpr (vl_12.mp hv)
    · exact vl_13.mpr (vl_13.mp hv)
    · exact vl_14.mpr (vl_14.mp hv)
    · exact vl_15.mpr (vl_15.mp hv)
    · exact vl_16.mpr (vl_16.mp hv)
    · have hv := vl_17.mp hv; refine vl_17.mpr ?_; rw [c2 54 _ (Or.inl (by decide))] at hv; exact hv
  · rw [ccM_W (B := A) hs c2 (fun f i _ => by rw [c3]) hLx.symm k i hv n1 n2]
    exact ccA hT 1 hAo (fun i hi _ => ⟨by rw [hAc, fu_n _ _ hi], by rw [hAm, fu_n _ _ hi]⟩) (fun t _ => by rw [hAz]) k i hv n1 n2
  · rcases z with ⟨rfl, rfl⟩ | ⟨rfl, rfl⟩ | ⟨rfl, t, ht, rfl⟩
    · rcases z' with ⟨rfl, rfl⟩ | ⟨rfl, rfl⟩ | ⟨rfl, t', ht', rfl⟩
      · exact ⟨rfl, rfl⟩
      · rw [hAe, hAr] at e9; rw [e9, hr] at he; cases he
      · rw [hAe, hAg] at e9; rw [e9, hm t' ht'] at he; cases he
    · rcases z' with ⟨rfl, rfl⟩ | ⟨rfl, rfl⟩ | ⟨rfl, t', ht', rfl⟩
      · rw [hAe, hAr] at e9; rw [← e9, hr] at he; cases he
      · exact ⟨rfl, rfl⟩
      · rw [hAr, hAg] at e9; rw [e9, hm t' ht'] at hr; cases hr
    · rcases z' with ⟨rfl, rfl⟩ | ⟨rfl, rfl⟩ | ⟨rfl, t', ht', rfl⟩
      · rw [hAe, hAg] at e9; rw [← e9, hm t ht] at he; cases he
      · rw [hAr, hAg] at e9; rw [← e9, hm t ht] at hr; cases hr
      · rw [hAg, hAg] at e9; exact ⟨rfl, by rw [hmi t t' ht ht' e9]⟩
  · rw [h9.2.2.1]
    show _ = some (cLs G A' M' 1)
    unfold cLs
    rw [hAc, hAm, fu_s, fu_s, if_neg (by omega), hAb, hlen', hlen]
  · rw [h9.2.1]
    show _ = some (cDt G A' M' 1)
    unfold cDt
    rw [hAc, fu_s, hlen', hlen]
    refine congrArg (fun z => some (aR 3 n' z)) (lstF_congr fun i hi => ?_).symm
    show A'.1 4 i = fu (A.1 4) W e i
    by_cases z : i = W
    · rw [z, hAe, fu_s]
    · rw [fu_n _ _ z, hAv 4 i (fun y => z y.2) (fun y => by omega) (fun y => by omega) (fun y => by omega)]
  · rcases z with ⟨rfl, rfl⟩ | ⟨rfl, rfl⟩ | ⟨rfl, t, ht, rfl⟩
    · rw [hAe]; exact Ne.symm (hhp a x ha).2.1
    · rw [hAr]; exact Ne.symm (hhp a x ha).2.2.1
    · rw [hAg]; exact Ne.symm ((hhp a x ha).2.2.2 t ht)
  · rw [e11] at hi
    rw [hAc]
    by_cases z : i = 1
    · rw [z, fu_s, hlen']; omega
    · rw [fu_n _ _ z, hln i z]; exact hR.cap hi
  · rw [c2 20 t (Or.inl (by decide))] at hn9
    rw [e11] at ht
    rw [hAz, c3]
    exact hR.2.2.2.2.2 t ht hn9
theorem RH.addN (hR : RH G hp0 A M h) (hT : tidy M) {N : Nat} (hL : M.1 11 = nI N) (hL4 : N < 20) {e gl qa b n' : Nat} (hs : ∀ f, f ≠ 11 → M'.1 f = M.1 f) (h35 : M'.1 11 = nI (N + 1)) (c2 : ∀ f i, f ∉ ([12, 13, 14, 15] : List Nat) ∨ i ≠ N → M'.2.1 f i = M.2.1 f i) (c3 : M'.2.2 = M.2.2) (z21 : M.2.1 21 N = 0) (z20 : M.2.1 20 N = 0) (he : hp0 e = some (oB (tci (M'.2.1 12 N)) ([.int (M'.2.1 12 N), .int (M'.2.1 13 N), .int (lng M' N), .ref gl, .long (M'.2.2 18 N)] ++ (if M'.2.1 12 N = 2 then [.int (M'.2.1 14 N)] else if M'.2.1 12 N = 3 then [.int (M'.2.1 15 N)] else if M'.2.1 12 N = 4 then [.ref qa, .int (M'.2.1 16 N), .int (M'.2.1 20 N), .long 0] else [])))) (hgl : hp0 gl = some (oB 0 [.int 0, .ref (gE G), .int (nI 0)])) (hqa : M'.2.1 12 N = 4 → hp0 qa = some (cQu G A M' N)) (h9 : added G A M h h' 2 e b n') (hhp : ∀ a x, hp a = some x → hp0 a = some x ∧ a ≠ e ∧ a ≠ gl ∧ (M'.2.1 12 N = 4 → a ≠ qa)) (hg : hp (gE G) = some e_nil) :
    ∃ A', RH G hp A' M' h' ∧ ext A M A' := by
  have hLx : nx (M.1 11) = N := by rw [hL]; exact nx_nI (by omega)
  have hLx' : nx (M'.1 11) = N + 1 := by rw [h35]; exact nx_nI (by omega)
  have hll : 2 < 4 + nx (M.1 11) := by omega
  have hlen : len M 2 = N := hLx
  have hlen' : len M' 2 = N + 1 := hLx'
  have hln : ∀ q, q ≠ 2 → len M' q = len M q := fun q hq => by
    match q with
    | 0 => show nx (M'.1 2) = nx (M.1 2); rw [hs 2 (by decide)]
    | 1 => show nx (M'.1 6) = nx (M.1 6); rw [hs 6 (by decide)]
    | 2 => exact absurd rfl hq
    | 3 => show nx (M'.1 35) = nx (M.1 35); rw [hs 35 (by decide)]
    | t + 4 => show nx (M'.2.1 21 t) = nx (M.2.1 21 t); rw [c2 21 t (Or.inl (by decide))]
  have hlN : len M' (N + 4) = 0 := by show nx (M'.2.1 21 N) = 0; rw [c2 21 N (Or.inl (by decide)), z21]; rfl
  have hn := h9.n hR hll
  generalize hA0 : aAdd A 2 b n' (fun k i => if k = 7 ∧ i = N then some e else if k = 1 ∧ i = N + 4 then some gl else if k = 10 ∧ i = N then some qa else none) = A0
  generalize hA' : ((A0.1, fu A0.2.1 (N + 4) 0, fu A0.2.2.1 (N + 4) 0, fu A0.2.2.2 N 0) : AD) = A'
  have hAv : ∀ k i, ¬ (k = 7 ∧ i = N) → ¬ (k = 1 ∧ i = N + 4) → ¬ (k = 10 ∧ i = N) → ¬ (k = 2 ∧ i = 2) → A'.1 k i = A.1 k i := fun k i z1 z2 z3 z4 => by rw [← hA', ← hA0]; simp only [aAdd, z1, z2, z3, z4, if_false]
  have hAe : A'.1 7 N = e := by rw [← hA', ← hA0]; simp [aAdd]
  have hAr : A'.1 1 (N + 4) = gl := by rw [← hA', ← hA0]; simp [aAdd]
  have hAg : A'.1 10 N = qa := by rw [← hA', ← hA0]; simp [aAdd]
  have hAb : A'.1 2 2 = b := by rw [← hA', ← hA0]; simp [aAdd]
  have hAc : A'.2.1 = fu (fu A.2.1 2 n') (N + 4) 0 := by rw [← hA', ← hA0]; rfl
  have hAm : A'.2.2.1 = fu (fu A.2.2.1 2 (A.2.2.1 2 + 1)) (N + 4) 0 := by rw [← hA', ← hA0]; rfl
  have hAz : A'.2.2.2 = fu A.2.2.2 N 0 := by rw [← hA', ← hA0]; rfl
  have hold : ∀ k i, vld A M k i → ¬ (k = 7 ∧ i = N) ∧ ¬ (k = 1 ∧ i = N + 4) ∧ ¬ (k = 10 ∧ i = N) := by
    intro k i hv
    refine ⟨?_, ?_, ?_⟩
    · rintro ⟨rfl, rfl⟩
      have hv := vl_7.mp hv
      omega
    · rintro ⟨rfl, rfl⟩
      have hv := vl_1.mp hv
      omega
    · rintro ⟨rfl, rfl⟩
      have hv := (vl_10.mp hv).1
      omega
  have hAo : ∀ k i, vld A M k i → ¬ (k = 2 ∧ i = 2) → A'.1 k i = A.1 k i := fun k i hv hne => hAv k i (hold k i hv).1 (hold k i hv).2.1 (hold k i hv).2.2 hne
  have nwc : ∀ k i, (k = 7 ∧ i = N) ∨ (k = 1 ∧ i = N + 4) ∨ (k = 10 ∧ i = N ∧ M'.2.1 12 N = 4) → hp0 (A'.1 k i) = some (cc G A' M' k i) := by
    rintro k i (⟨rfl, rfl⟩ | ⟨rfl, rfl⟩ | ⟨rfl, rfl, k4⟩)
    · rw [hAe, he]; show _ = some (cTh G A' M' i); unfold cTh tEx; rw [hAr, hAg, hAz, fu_s]
    · rw [hAr, hgl]; show _ = some (cLs G A' M' (N + 4)); unfold cLs; rw [hAc, hAm, fu_s, fu_s, if_pos rfl, hlN]
    · rw [hAg]; exact hqa k4
  refine ⟨A', ?_, fun k i h1 _ hv => hAo k i hv (fun z => h1 z.1)⟩
  refine hR.add hll (fun k i => (k = 7 ∧ i = N) ∨ (k = 1 ∧ i = N + 4) ∨ (k = 10 ∧ i = N ∧ M'.2.1 12 N = 4)) h9.b (fun k i hv => ?_) hAo hAb (fun k i hv n1 n2 => ?_) nwc (fun k i k' i' z z' e9 => ?_) ?_ ?_ h9.2.2.2 (fun a x ha => ⟨(hhp a x ha).1, fun k i z => ?_⟩) hg (fun i hi => ?_) (fun t ht hn9 => ?_)
  · have hk := vld_lt hv
    by_cases z2 : k = 2 ∧ i = 2
    · exact Or.inr (Or.inl z2)
    by_cases z9 : (k = 7 ∧ i = N) ∨ (k = 1 ∧ i = N + 4) ∨ (k = 10 ∧ i = N ∧ M'.2.1 12 N = 4)
    · exact Or.inr (Or.inr z9)
    refine Or.inl ⟨?_, z2⟩
    rcases (by omega : k = 0 ∨ k = 1 ∨ k = 2 ∨ k = 3 ∨ k = 4 ∨ k = 5 ∨ k = 6 ∨ k = 7 ∨ k = 8 ∨ k = 9 ∨ k = 10 ∨ k = 11 ∨ k = 12 ∨ k = 13 ∨ k = 14 ∨ k = 15 ∨ k = 16 ∨ k = 17) with rfl | rfl | rfl | rfl | rfl | rfl | rfl | rfl | rfl | rfl | rfl | rfl | rfl | rfl | rfl | rfl | rfl | rfl
    · exact vl_0.mpr (vl_0.mp hv)
    · have hv := vl_1.mp hv; refine vl_1.mpr ?_; rw [hLx'] at hv; rw [hLx]; have : i ≠ N + 4 := fun e => z9 (Or.inr (Or.inl ⟨rfl, e⟩)); omega
    · have hv := vl_2.mp hv; refine vl_2.mpr ?_; rw [hLx', hAc] at hv; rw [hLx]
      have hi4 : i ≠ N + 4 := fun e => hv.2 (by rw [e, fu_s])
      rw [fu_n _ _ hi4, fu_n _ _ (fun e => z2 ⟨rfl, e⟩)] at hv
      exact ⟨by omega, hv.2⟩
    · have hv := vl_3.mp hv; refine vl_3.mpr ?_; rw [hs 2 (by decide)] at hv; exact hv
    · have hv := vl_4.mp hv; refine vl_4.mpr ?_; rw [hs 6 (by decide)] at hv; exact hv
    · have hv := vl_5.mp hv; refine vl_5.mpr ?_; rw [hs 6 (by decide)] at hv; exact hv
    · have hv := vl_6.mp hv; refine vl_6.mpr ?_; rw [hs 6 (by decide)] at hv; exact hv
    · have hv := vl_7.mp hv; refine vl_7.mpr ?_; rw [hLx'] at hv; rw [hLx]; have : i ≠ N := fun e => z9 (Or.inl ⟨rfl, e⟩); omega
    · have hv := vl_8.mp hv; refine vl_8.mpr ?_; rw [c2 21 _ (Or.inl (by decide)), hLx'] at hv; rw [hLx]
      have : i / 20 ≠ N := fun e => by rw [e, z21] at hv; exact absurd hv.2 (Nat.not_lt_zero _)
      exact ⟨by omega, hv.2⟩
    · have hv := vl_9.mp hv; refine vl_9.mpr ?_; rw [hs 35 (by decide)] at hv; exact hv
    · have hv := vl_10.mp hv; refine vl_10.mpr ?_; rw [hLx'] at hv; rw [hLx]
      have hi : i ≠ N := fun e => z9 (Or.inr (Or.inr ⟨rfl, e, by rw [← e]; exact hv.2⟩))
      rw [c2 12 _ (Or.inr hi)] at hv
      exact ⟨by omega, hv.2⟩
    · exact vl_11.mpr (vl_11.mp hv)
    · exact vl_12.mpr (vl_12.mp hv)
    · exact vl_13.mpr (vl_13.mp hv)
    · exact vl_14.mpr (vl_14.mp hv)
    · exact vl_15.mpr (vl_15.mp hv)
    · exact vl_16.mpr (vl_16.mp hv)
    · have hv := vl_17.mp hv; refine vl_17.mpr ?_; rw [c2 54 _ (Or.inl (by decide))] at hv; exact hv
  · rw [ccM_N (B := A) hs c2 (fun f i _ => by rw [c3]) hLx.symm k i hv n1 n2]
    exact ccA hT 2 hAo (fun i hi h4 => ⟨by rw [hAc, fu_n _ _ (show i ≠ N + 4 by omega), fu_n _ _ hi], by rw [hAm, fu_n _ _ (show i ≠ N + 4 by omega), fu_n _ _ hi]⟩) (fun t ht => by rw [hAz, fu_n _ _ (show t ≠ N by omega)]) k i hv n1 n2
  · rcases z with ⟨rfl, rfl⟩ | ⟨rfl, rfl⟩ | ⟨rfl, rfl, k4⟩
    · rcases z' with ⟨rfl, rfl⟩ | ⟨rfl, rfl⟩ | ⟨rfl, rfl, k4⟩
      · exact ⟨rfl, rfl⟩
      · rw [hAe, hAr] at e9; rw [e9, hgl] at he
        have := tci_lt (M'.2.1 12 i); simp only [Option.some.injEq, Sum.inr.injEq, Prod.mk.injEq] at he; omega
      · rw [hAe, hAg] at e9; rw [e9, hqa k4] at he; cases he
    · rcases z' with ⟨rfl, rfl⟩ | ⟨rfl, rfl⟩ | ⟨rfl, rfl, k4⟩
      · rw [hAe, hAr] at e9; rw [← e9, hgl] at he
        have := tci_lt (M'.2.1 12 i'); simp only [Option.some.injEq, Sum.inr.injEq, Prod.mk.injEq] at he; omega
      · exact ⟨rfl, rfl⟩
      · rw [hAr, hAg] at e9; rw [e9, hqa k4] at hgl; cases hgl
    · rcases z' with ⟨rfl, rfl⟩ | ⟨rfl, rfl⟩ | ⟨rfl, rfl, k5⟩
      · rw [hAe, hAg] at e9; rw [← e9, hqa k4] at he; cases he
      · rw [hAr, hAg] at e9; rw [← e9, hqa k4] at hgl; cases hgl
      · exact ⟨rfl, rfl⟩
  · rw [h9.2.2.1]
    show _ = some (cLs G A' M' 2)
    unfold cLs
    rw [hAc, hAm, fu_n _ _ (show 2 ≠ N + 4 by omega), fu_n _ _ (show 2 ≠ N + 4 by omega), fu_s, fu_s, if_neg (by omega), hAb, hlen', hlen]
  · rw [h9.2.1]
    show _ = some (cDt G A' M' 2)
    unfold cDt
    rw [hAc, fu_n _ _ (show 2 ≠ N + 4 by omega), fu_s, hlen', hlen]
    refine congrArg (fun z => some (aR 3 n' z)) (lstF_congr fun i hi => ?_).symm
    show A'.1 7 i = fu (A.1 7) N e i
    by_cases z : i = N
    · rw [z, hAe, fu_s]
    · rw [fu_n _ _ z, hAv 7 i (fun y => z y.2) (fun y => by omega) (fun y => by omega) (fun y => by omega)]
  · rcases z with ⟨rfl, rfl⟩ | ⟨rfl, rfl⟩ | ⟨rfl, rfl, k4⟩
    · rw [hAe]; exact Ne.symm (hhp a x ha).2.1
    · rw [hAr]; exact Ne.symm (hhp a x ha).2.2.1
    · rw [hAg]; exact Ne.symm ((hhp a x ha).2.2.2 k4)
  · rw [hLx'] at hi
    rw [hAc]
    by_cases z4 : i = N + 4
    · rw [z4, fu_s, hlN]; omega
    · rw [fu_n _ _ z4]
      by_cases z : i = 2
      · rw [z, fu_s, hlen']; omega
      · rw [fu_n _ _ z, hln i z]; exact hR.cap (by omega)
  · rw [c2 20 t (Or.inl (by decide))] at hn9
    have htN : t ≠ N := fun e => hn9 (by rw [e]; exact z20)
    rw [hAz, fu_n _ _ htN, c3]
    exact hR.2.2.2.2.2 t (by omega) hn9
end RH6
