/-! ===== the invariant is kept: things, leaders, letters ===== -/
theorem thOk_w {k ln w : Int32} (h : ¬ thingOk k ln w = false) (hk : ¬ k = 2) : w = 0 := by
  unfold thingOk at h
  by_cases a : fin k 0 4 = false
  · rw [if_pos a] at h; exact absurd rfl h
  · rw [if_neg a] at h
    by_cases b : fin ln 1 1000 = false
    · rw [if_pos b] at h; exact absurd rfl h
    · rw [if_neg b, if_neg hk] at h
      simpa using h
theorem Inv.thing {M : MS} (k ln w : Int32) (h : Inv M) : Inv (f_thing M k ln w).2 := by
  unfold f_thing
  by_cases z1 : thingOk k ln w = false
  · rw [if_pos z1]; exact h
  · rw [if_neg z1]
    by_cases z : M.1 11 = 20
    · rw [if_pos z]; exact h
    · rw [if_neg z]
      obtain ⟨⟨hb, hc, hd⟩, i2, i3, i4, i5, i6, i7, i8⟩ := h
      have hb9 := hb
      unfold bnd at hb9
      have e := cntS hc.2.2.1 (by omega)
      have hlt : nx (M.1 11) < 20 := eq20 hb.2.2.1 (by rw [← hc.2.2.1]; exact z)
      have e11 : nx (M.1 11) ≤ nx (M.1 11 + 1) := by rw [e.2.1]; omega
      have hn : ∀ t, t ≠ nx (M.1 11) → ∀ f, (sS (sI (sI (sI (sI M 12 (nx (M.1 11)) k) 13 (nx (M.1 11)) ln) 14 (nx (M.1 11)) w) 15 (nx (M.1 11)) (-1)) 11 (M.1 11 + 1)).2.1 f t = M.2.1 f t := fun t ht f => by rw [sS_1, sI_n _ _ _ _ ht, sI_n _ _ _ _ ht, sI_n _ _ _ _ ht, sI_n _ _ _ _ ht]
      have v12 : (sS (sI (sI (sI (sI M 12 (nx (M.1 11)) k) 13 (nx (M.1 11)) ln) 14 (nx (M.1 11)) w) 15 (nx (M.1 11)) (-1)) 11 (M.1 11 + 1)).2.1 12 (nx (M.1 11)) = k := by simp [sI_at, sS_1]
      have v14 : (sS (sI (sI (sI (sI M 12 (nx (M.1 11)) k) 13 (nx (M.1 11)) ln) 14 (nx (M.1 11)) w) 15 (nx (M.1 11)) (-1)) 11 (M.1 11 + 1)).2.1 14 (nx (M.1 11)) = w := by simp [sI_at, sS_1]
      have v15 : (sS (sI (sI (sI (sI M 12 (nx (M.1 11)) k) 13 (nx (M.1 11)) ln) 14 (nx (M.1 11)) w) 15 (nx (M.1 11)) (-1)) 11 (M.1 11 + 1)).2.1 15 (nx (M.1 11)) = -1 := by simp [sI_at, sS_1]
      have o21 : (sS (sI (sI (sI (sI M 12 (nx (M.1 11)) k) 13 (nx (M.1 11)) ln) 14 (nx (M.1 11)) w) 15 (nx (M.1 11)) (-1)) 11 (M.1 11 + 1)).2.1 21 = M.2.1 21 := rfl
      have o20 : (sS (sI (sI (sI (sI M 12 (nx (M.1 11)) k) 13 (nx (M.1 11)) ln) 14 (nx (M.1 11)) w) 15 (nx (M.1 11)) (-1)) 11 (M.1 11 + 1)).2.1 20 = M.2.1 20 := rfl
      have o16 : (sS (sI (sI (sI (sI M 12 (nx (M.1 11)) k) 13 (nx (M.1 11)) ln) 14 (nx (M.1 11)) w) 15 (nx (M.1 11)) (-1)) 11 (M.1 11 + 1)).2.1 16 = M.2.1 16 := rfl
      have o22 : (sS (sI (sI (sI (sI M 12 (nx (M.1 11)) k) 13 (nx (M.1 11)) ln) 14 (nx (M.1 11)) w) 15 (nx (M.1 11)) (-1)) 11 (M.1 11 + 1)).2.1 22 = M.2.1 22 := rfl
      have o17 : (sS (sI (sI (sI (sI M 12 (nx (M.1 11)) k) 13 (nx (M.1 11)) ln) 14 (nx (M.1 11)) w) 15 (nx (M.1 11)) (-1)) 11 (M.1 11 + 1)).2.1 17 = M.2.1 17 := rfl
      have w11 : (sS (sI (sI (sI (sI M 12 (nx (M.1 11)) k) 13 (nx (M.1 11)) ln) 14 (nx (M.1 11)) w) 15 (nx (M.1 11)) (-1)) 11 (M.1 11 + 1)).1 11 = M.1 11 + 1 := rfl
      refine ⟨⟨⟨hb.1, hb.2.1, by show nx (M.1 11 + 1) ≤ 20; rw [e.2.1]; omega, hb.2.2.2.1, hb.2.2.2.2⟩, ⟨hc.1, hc.2.1, e.1.symm, hc.2.2.2.1, hc.2.2.2.2⟩, hd⟩, ?_, ?_, ?_, i5, ?_, i7, ?_⟩
      · intro t ht
        have ht2 : t < nx (M.1 11) + 1 := by rw [← e.2.1]; exact ht
        by_cases et : t = nx (M.1 11)
        · subst et
          obtain ⟨f1, f2, f3, f4, f5⟩ := i3 (nx (M.1 11)) (Nat.le_refl _) hlt
          refine ⟨?_, Or.inl (by rw [o20]; exact f2), ?_⟩
          · unfold thI
            rw [v12, v14, v15, o21, o20, o16, f1, f2, f4]
            exact ⟨by decide, by decide, by decide, by decide, fun q => absurd rfl q, fun _ => ⟨rfl, rfl⟩, fun _ => rfl, fun q => thOk_w z1 q⟩
          · have n0 : nx (0 : Int32) = 0 := by decide
            unfold grI
            rw [o21, o16, f1, f4, n0]
            exact ⟨fun _ q => absurd q (by omega), fun _ _ q => absurd q (by omega), fun _ q => absurd q (by omega)⟩
        · obtain ⟨a, b, c⟩ := i2 t (by omega)
          exact ⟨thI_c (hn t et 21) (hn t et 16) (hn t et 20) (hn t et 12) (hn t et 15) (hn t et 14) a, by rw [hn t et 20]; exact b, grI_c (M := M) (Nat.le_refl _) (hn t et 21) (hn t et 16) (fun _ _ => by rw [o22]) (fun _ _ => by rw [o17]) c⟩
      · exact iF_c (M := M) e11 rfl rfl rfl rfl rfl i3
      · exact iM_c (M := M) (Nat.le_refl _) e11 rfl rfl rfl rfl rfl rfl i4
      · exact iL_c (M := M) (Nat.le_refl _) e11 (Nat.le_refl _) rfl (fun t ht => hn t (by omega) 12) rfl rfl rfl rfl rfl i6
      · exact iY_c (M := M) e11 (Nat.le_refl _) rfl rfl rfl rfl i8
theorem ledE_2 (M : MS) (t : Nat) (e : Int64) {f : Nat} (h : f ≠ 26) : ∀ i, (ledE M t e i).2.2 f = M.2.2 f
  | 0 => rfl
  | i + 1 => by
    show (sL (ledE M t e i) 26 (20 * t + i) e).2.2 f = _
    rw [sL_k _ _ _ h, ledE_2 M t e h i]
theorem ledM_2 (M : MS) (k : Nat) {f : Nat} (h : f ≠ 26) (h' : f ≠ 19) : ∀ t, (ledM M k t).2.2 f = M.2.2 f
  | 0 => rfl
  | t + 1 => by
    show (sL (ledE (ledM M k t) t _ _) 19 t _).2.2 f = _
    rw [sL_k _ _ _ h', ledE_2 _ _ _ h, ledM_2 M k h h' t]
theorem Inv.lead {M : MS} (v : Int32) (h : Inv M) : Inv (f_lead M v).2 := by
  unfold f_lead
  by_cases z1 : isIx v (nx (M.1 2)) = false
  · rw [if_pos z1]; exact h
  · rw [if_neg z1]
    have hb9 := h.1.1
    unfold bnd at hb9
    obtain ⟨j, hj, rfl⟩ := isIx_t (by simpa using z1) (by omega)
    rw [nx_nI (show j < 2 ^ 31 by omega)]
    by_cases z2 : M.2.1 5 j = 0
    · rw [if_pos z2]; exact h
    · rw [if_neg z2]
      by_cases z3 : isMst M = false
      · rw [if_pos z3]; exact h
      · rw [if_neg z3]
        have hB : Inv (sS (sS M 27 (nI j)) 28 (M.1 28 + 1)) := by
          obtain ⟨⟨hb, hc, hd⟩, i2, i3, i4, i5, i6, i7, i8⟩ := h
          exact ⟨⟨hb, hc, hd⟩, i2, i3, i4, i5, i6, Or.inr ⟨j, hj, rfl, z2⟩, i8⟩
        generalize sS (sS M 27 (nI j)) 28 (M.1 28 + 1) = B at hB
        obtain ⟨s1, s2⟩ := ledM_1 B j (nx (M.1 11))
        refine hB.same ⟨⟨by rw [s1], by rw [s1], by rw [s1], by rw [s1], by rw [s1], by rw [s1]⟩, by rw [s1], fun f _ => by rw [s2], fun f hf => ?_⟩
        have hf2 := (by decide : ∀ f ∈ ([18, 33, 34, 57] : List Nat), f ≠ 26 ∧ f ≠ 19) f hf
        exact ledM_2 B j hf2.1 hf2.2 _
/-- a letter more -/
theorem Inv.snd {M M' : MS} (h : Inv M) (hL4 : nx (M.1 35) < 400) (hc : ∀ f, f ∈ ([0, 2, 6, 11, 46, 27] : List Nat) → M'.1 f = M.1 f) (h35 : M'.1 35 = M.1 35 + 1) (hk : ∀ f, f ∈ ([5, 12, 14, 15, 16, 17, 20, 21, 22, 29, 30, 31, 54, 55, 56] : List Nat) → M'.2.1 f = M.2.1 f) (h32 : ∀ i, M'.2.1 32 i = M.2.1 32 i ∨ ∃ w t, w < nx (M.1 6) ∧ t < nx (M.1 11) ∧ i = 20 * w + t) (h9 : ∀ i, M'.2.1 9 i = M.2.1 9 i ∨ (i < nx (M.1 6) ∧ M'.2.1 9 i = M.2.1 9 i + 1)) (hl : ∀ f j, f ∈ ([36, 37, 38, 39, 43] : List Nat) → j ≠ nx (M.1 35) → M'.2.1 f j = M.2.1 f j) (hn : ltI M (M'.2.1 36 (nx (M.1 35))) (M'.2.1 37 (nx (M.1 35))) (M'.2.1 38 (nx (M.1 35))) (M'.2.1 39 (nx (M.1 35))) (M'.2.1 43 (nx (M.1 35)))) (hq : ∀ f, f ∈ ([18, 33, 34, 57] : List Nat) → M'.2.2 f = M.2.2 f) : Inv M' := by
  obtain ⟨⟨hb, hc1, hd⟩, i2, i3, i4, i5, i6, i7, i8⟩ := h
  have hb9 := hb
  unfold bnd at hb9
  have e := cntS hc1.2.2.2.1 (by omega)
  have c0 := hc 0 (by decide)
  have c2 := hc 2 (by decide)
  have c6 := hc 6 (by decide)
  have c11 := hc 11 (by decide)
  have c46 := hc 46 (by decide)
  have e35 : nx (M'.1 35) = nx (M.1 35) + 1 := by rw [h35]; exact e.2.1
  have e2 : nx (M.1 2) ≤ nx (M'.1 2) := by rw [c2]; exact Nat.le_refl _
  have e6 : nx (M.1 6) ≤ nx (M'.1 6) := by rw [c6]; exact Nat.le_refl _
  have e11 : nx (M.1 11) ≤ nx (M'.1 11) := by rw [c11]; exact Nat.le_refl _
  have el : nx (M.1 35) ≤ nx (M'.1 35) := by omega
  refine ⟨⟨⟨by rw [c2]; exact hb.1, by rw [c6]; exact hb.2.1, by rw [c11]; exact hb.2.2.1, by omega, by rw [c46]; exact hb.2.2.2.2⟩, ⟨by rw [c2]; exact hc1.1, by rw [c6]; exact hc1.2.1, by rw [c11]; exact hc1.2.2.1, by rw [e35, h35]; exact e.2.2, by rw [c46]; exact hc1.2.2.2.2⟩, by unfold iD; rw [c0]; exact hd⟩, iT_c c11 e6 (hk 21 (by decide)) (hk 16 (by decide)) (hk 20 (by decide)) (hk 12 (by decide)) (hk 15 (by decide)) (hk 14 (by decide)) (hk 22 (by decide)) (hk 17 (by decide)) i2, iF_c e11 (hk 21 (by decide)) (hk 20 (by decide)) (hq 18 (by decide)) (hk 16 (by decide)) (hk 17 (by decide)) i3, ?_, ?_, ?_, iK_c e2 (hc 27 (by decide)) (fun _ _ => by rw [hk 5 (by decide)]) i7, iY_c e11 el (hk 54 (by decide)) (hk 55 (by decide)) (hk 56 (by decide)) (hq 57 (by decide)) i8⟩
  · intro w t hw ht
    rw [c6, c11, hk 29 (by decide), hk 30 (by decide), hk 31 (by decide), hq 33 (by decide), hq 34 (by decide)]
    obtain ⟨a, b, c⟩ := i4 w t hw ht
    refine ⟨fun z => ⟨(a z).1, ?_⟩, b, c⟩
    rcases h32 (20 * w + t) with q | ⟨w', t', h1, h2, q⟩
    · rw [q]; exact (a z).2
    · exfalso; omega
  · intro w hw
    rw [c6, e35]
    obtain ⟨⟨s, hs, q⟩, b⟩ := i5 w hw
    rcases h9 w with y | ⟨y1, y2⟩
    · exact ⟨⟨s, by omega, by rw [y]; exact q⟩, fun z => by rw [y]; exact b z⟩
    · exact ⟨⟨s + 1, by omega, by rw [y2, q, nI_1]⟩, fun z => by omega⟩
  · intro j hj
    rw [e35] at hj
    by_cases ej : j = nx (M.1 35)
    · subst ej
      exact ltI_c e6 e11 e2 (fun _ _ => by rw [hk 12 (by decide)]) hn
    · rw [hl 36 j (by decide) ej, hl 37 j (by decide) ej, hl 38 j (by decide) ej, hl 39 j (by decide) ej, hl 43 j (by decide) ej]
      exact ltI_c e6 e11 e2 (fun _ _ => by rw [hk 12 (by decide)]) (i6 j (by omega))
theorem mkd_k (M : MS) (L : Nat) (k : Int32) (w : Nat) (kp : Int32) (t : Nat) (mode parts : Int32) (num : Int64) {f : Nat} (h : f ≠ 9 ∧ f ≠ 32 ∧ (f < 36 ∨ 43 < f)) : (mkdM M L k w kp t mode parts num).2.1 f = M.2.1 f := by
  unfold mkdM
  simp only [sL_1, sI_k _ _ _ h.1, sI_k _ _ _ h.2.1, sI_k _ _ _ (show f ≠ 40 by omega), sI_k _ _ _ (show f ≠ 41 by omega), sI_k _ _ _ (show f ≠ 43 by omega), snd_k _ _ _ _ _ _ h.2.2]
theorem mkd_k2 (M : MS) (L : Nat) (k : Int32) (w : Nat) (kp : Int32) (t : Nat) (mode parts : Int32) (num : Int64) {f : Nat} (h : f ≠ 44 ∧ f ≠ 45 ∧ (f < 44 ∨ 45 < f)) : (mkdM M L k w kp t mode parts num).2.2 f = M.2.2 f := by
  unfold mkdM
  simp only [sI_2, sL_k _ _ _ h.1, sL_k _ _ _ h.2.1, snd_k2 _ _ _ _ _ _ h.2.2]
theorem Inv.mkd {M : MS} (h : Inv M) (hL4 : nx (M.1 35) < 400) {k : Int32} {w t b : Nat} (hw : w < nx (M.1 6)) (ht : t < nx (M.1 11)) (hb : b < nx (M.1 2)) (mode parts : Int32) (num : Int64) (h3 : k < 4 → ¬ k = 0 → ¬ k = 1 → ¬ k = 2 → M.2.1 12 t = 3) : Inv (mkdM M (nx (M.1 35)) k w (nI b) t mode parts num) := by
  have hbd := h.1.1
  unfold bnd at hbd
  obtain ⟨s, hs, es⟩ := (h.2.2.2.2.1 w (by omega)).1
  have e36 : (mkdM M (nx (M.1 35)) k w (nI b) t mode parts num).2.1 36 (nx (M.1 35)) = k := by simp [mkdM, sndM, sI_at, sL_1, sS_1]
  have e37 : (mkdM M (nx (M.1 35)) k w (nI b) t mode parts num).2.1 37 (nx (M.1 35)) = nI w := by simp [mkdM, sndM, sI_at, sL_1, sS_1]
  have e38 : (mkdM M (nx (M.1 35)) k w (nI b) t mode parts num).2.1 38 (nx (M.1 35)) = nI b := by simp [mkdM, sndM, sI_at, sL_1, sS_1]
  have e39 : (mkdM M (nx (M.1 35)) k w (nI b) t mode parts num).2.1 39 (nx (M.1 35)) = nI t := by simp [mkdM, sndM, sI_at, sL_1, sS_1]
  have e43 : (mkdM M (nx (M.1 35)) k w (nI b) t mode parts num).2.1 43 (nx (M.1 35)) = nI (s + 1) := by
    rw [← nI_1, ← es]; simp [mkdM, sndM, sI_at, sL_1, sS_1]
  have hm : ¬ nI (s + 1) = 0 := fun q => by
    have := congrArg nx q
    rw [nx_nI (by omega)] at this
    have n0 : nx (0 : Int32) = 0 := by decide
    omega
  refine h.snd hL4 (fun f hf => ?_) rfl (fun f hf => mkd_k _ _ _ _ _ _ _ _ _ ((by decide : ∀ f ∈ ([5, 12, 14, 15, 16, 17, 20, 21, 22, 29, 30, 31, 54, 55, 56] : List Nat), f ≠ 9 ∧ f ≠ 32 ∧ (f < 36 ∨ 43 < f)) f hf)) (fun i => ?_) (fun i => ?_) (fun f j hf hj => ?_) ?_ (fun f hf => mkd_k2 _ _ _ _ _ _ _ _ _ ((by decide : ∀ f ∈ ([18, 33, 34, 57] : List Nat), f ≠ 44 ∧ f ≠ 45 ∧ (f < 44 ∨ 45 < f)) f hf))
  · have hf2 := (by decide : ∀ f ∈ ([0, 2, 6, 11, 46, 27] : List Nat), ¬ f = 35) f hf
    show (sS M 35 _).1 f = _
    rw [sS_at, if_neg hf2]
  · by_cases e : i = 20 * w + t
    · exact Or.inr ⟨w, t, hw, ht, e⟩
    · exact Or.inl (by simp [mkdM, sndM, sI_at, sL_1, sS_1, e])
  · by_cases e : i = w
    · subst e; exact Or.inr ⟨hw, by simp [mkdM, sndM, sI_at, sL_1, sS_1]⟩
    · exact Or.inl (by simp [mkdM, sndM, sI_at, sL_1, sS_1, e])
  · have hf2 := (by decide : ∀ f ∈ ([36, 37, 38, 39, 43] : List Nat), ¬ f = 9 ∧ ¬ f = 32) f hf
    simp [mkdM, sndM, sI_at, sL_1, sS_1, hf2.1, hf2.2, hj]
  · rw [e36, e37, e38, e39, e43]
    exact ⟨w, t, b, hw, ht, hb, rfl, rfl, rfl, h3, fun _ => hm, fun _ _ => hm⟩
theorem Inv.marked {M : MS} (h : Inv M) {k : Int32} {w t b : Nat} (hw : w < nx (M.1 6)) (ht : t < nx (M.1 11)) (hb : b < nx (M.1 2)) (mode parts : Int32) (num : Int64) (h3 : k < 4 → ¬ k = 0 → ¬ k = 1 → ¬ k = 2 → M.2.1 12 t = 3) : Inv (f_marked M k w (nI b) t mode parts num).2 := by
  unfold f_marked
  by_cases z : M.1 35 = 400
  · rw [if_pos z]; exact h
  · rw [if_neg z]
    exact h.mkd (eq400 h.1.1.2.2.2.1 (by rw [← h.1.2.1.2.2.2.1]; exact z)) hw ht hb mode parts num h3
theorem thr_x {M : MS} {w k t : Int32} (hb : bnd M) (h : ¬ thr M w k t = false) : ∃ w' b' t' : Nat, w' < nx (M.1 6) ∧ b' < nx (M.1 2) ∧ t' < nx (M.1 11) ∧ w = nI w' ∧ k = nI b' ∧ t = nI t' ∧ nx w = w' ∧ nx t = t' := by
  unfold bnd at hb
  obtain ⟨h1, h2, h3⟩ := thr_t (by simpa using h)
  obtain ⟨w', a1, a2⟩ := isIx_t h1 (by omega)
  obtain ⟨b', b1, b2⟩ := isIx_t h2 (by omega)
  obtain ⟨t', c1, c2⟩ := isIx_t h3 (by omega)
  exact ⟨w', b', t', a1, b1, c1, a2, b2, c2, by rw [a2]; exact nx_nI (by omega), by rw [c2]; exact nx_nI (by omega)⟩
theorem Inv.ask {M : MS} (w k t mode parts : Int32) (h : Inv M) : Inv (f_ask M w k t mode parts).2 := by
  unfold f_ask
  by_cases z : thr M w k t = false
  · rw [if_pos z]; exact h
  · rw [if_neg z]
    obtain ⟨w', b', t', a1, a2, a3, a4, a5, a6, a7, a8⟩ := thr_x h.1.1 z
    rw [a5, a7, a8]
    refine ite_inv h (ite_inv h (h.marked a1 a3 a2 _ _ _ (fun _ q => absurd rfl q)))
theorem Inv.renew {M : MS} (w k t : Int32) (h : Inv M) : Inv (f_renew M w k t).2 := by
  unfold f_renew
  by_cases z : thr M w k t = false
  · rw [if_pos z]; exact h
  · rw [if_neg z]
    obtain ⟨w', b', t', a1, a2, a3, a4, a5, a6, a7, a8⟩ := thr_x h.1.1 z
    rw [a5, a7, a8]
    refine ite_inv h (ite_inv h (h.marked a1 a3 a2 _ _ _ (fun _ _ q => absurd rfl q)))
theorem Inv.rise {M : MS} (w k t : Int32) (h : Inv M) : Inv (f_rise M w k t).2 := by
  unfold f_rise
  by_cases z : thr M w k t = false
  · rw [if_pos z]; exact h
  · rw [if_neg z]
    obtain ⟨w', b', t', a1, a2, a3, a4, a5, a6, a7, a8⟩ := thr_x h.1.1 z
    rw [a5, a7, a8]
    by_cases z3 : M.2.1 12 t' = 3
    · rw [if_pos z3]
      exact ite_inv h (ite_inv h (h.marked a1 a3 a2 _ _ _ (fun _ _ _ _ => z3)))
    · rw [if_neg z3]; exact h
