/-! ===== the invariant: what a letter's answer changes ===== -/
theorem inv_ans5 {M : MS} {j : Nat} (h : Inv M) (hL4 : nx (M.1 35) < 400) (hj : j < nx (M.1 35)) (hm : ¬ M.2.1 43 j = 0) : Inv (ansM M j 5) := by
  have hne : j ≠ nx (M.1 35) := by omega
  refine inv_snt h hL4 (ans_snt h.1.2.1.2.2.2.1 hL4) ?_
  have e36 : (ansM M j 5).2.1 36 (nx (M.1 35)) = 5 := by simp [ansM, sndM, sI_at, sL_1, sS_1]
  have e37 : (ansM M j 5).2.1 37 (nx (M.1 35)) = M.2.1 37 j := by simp [ansM, sndM, sI_at, sL_1, sS_1]
  have e38 : (ansM M j 5).2.1 38 (nx (M.1 35)) = M.2.1 38 j := by simp [ansM, sndM, sI_at, sL_1, sS_1]
  have e39 : (ansM M j 5).2.1 39 (nx (M.1 35)) = M.2.1 39 j := by simp [ansM, sndM, sI_at, sL_1, sS_1]
  have e43 : (ansM M j 5).2.1 43 (nx (M.1 35)) = M.2.1 43 j := by simp [ansM, sndM, sI_at, sL_1, sS_1, hne]
  rw [e36, e37, e38, e39, e43]
  obtain ⟨w', t', b', a1, a2, a3, a4, a5, a6, _, _, _⟩ := h.2.2.2.2.2.1 j hj
  exact ⟨w', t', b', a1, a2, a3, a4, a5, a6, fun q => absurd q (by decide), fun _ => hm, fun q => absurd q (by decide)⟩
theorem inv_ans7 {M : MS} {j : Nat} (h : Inv M) (hL4 : nx (M.1 35) < 400) (hj : j < nx (M.1 35)) : Inv (sL (ansM M j 7) 44 (nx (M.1 35)) ((ansM M j 7).2.2 44 j)) := by
  have hne : j ≠ nx (M.1 35) := by omega
  refine inv_snt h hL4 (lte_snt h.1.2.1.2.2.2.1 hL4) ?_
  have e36 : (sL (ansM M j 7) 44 (nx (M.1 35)) ((ansM M j 7).2.2 44 j)).2.1 36 (nx (M.1 35)) = 7 := by simp [ansM, sndM, sI_at, sL_1, sS_1]
  have e37 : (sL (ansM M j 7) 44 (nx (M.1 35)) ((ansM M j 7).2.2 44 j)).2.1 37 (nx (M.1 35)) = M.2.1 37 j := by simp [ansM, sndM, sI_at, sL_1, sS_1]
  have e38 : (sL (ansM M j 7) 44 (nx (M.1 35)) ((ansM M j 7).2.2 44 j)).2.1 38 (nx (M.1 35)) = M.2.1 38 j := by simp [ansM, sndM, sI_at, sL_1, sS_1]
  have e39 : (sL (ansM M j 7) 44 (nx (M.1 35)) ((ansM M j 7).2.2 44 j)).2.1 39 (nx (M.1 35)) = M.2.1 39 j := by simp [ansM, sndM, sI_at, sL_1, sS_1]
  rw [e36, e37, e38, e39]
  obtain ⟨w', t', b', a1, a2, a3, a4, a5, a6, _, _, _⟩ := h.2.2.2.2.2.1 j hj
  exact ⟨w', t', b', a1, a2, a3, a4, a5, a6, fun q => absurd q (by decide), fun q => absurd q (by decide), fun q => absurd q (by decide)⟩
theorem inv_grs {M : MS} {j t a : Nat} (h : Inv M) (hL4 : nx (M.1 35) < 400) (hj : j < nx (M.1 35)) (hm : ¬ M.2.1 43 j = 0) : Inv (grsM M j t a) := by
  have hne : j ≠ nx (M.1 35) := by omega
  refine inv_snt h hL4 (grs_snt h.1.2.1.2.2.2.1 hL4) ?_
  have e36 : (grsM M j t a).2.1 36 (nx (M.1 35)) = 4 := by simp [grsM, ansM, sndM, sI_at, sL_1, sS_1]
  have e37 : (grsM M j t a).2.1 37 (nx (M.1 35)) = M.2.1 37 j := by simp [grsM, ansM, sndM, sI_at, sL_1, sS_1]
  have e38 : (grsM M j t a).2.1 38 (nx (M.1 35)) = M.2.1 38 j := by simp [grsM, ansM, sndM, sI_at, sL_1, sS_1]
  have e39 : (grsM M j t a).2.1 39 (nx (M.1 35)) = M.2.1 39 j := by simp [grsM, ansM, sndM, sI_at, sL_1, sS_1]
  have e43 : (grsM M j t a).2.1 43 (nx (M.1 35)) = M.2.1 43 j := by simp [grsM, ansM, sndM, sI_at, sL_1, sS_1, hne]
  rw [e36, e37, e38, e39, e43]
  obtain ⟨w', t', b', a1, a2, a3, a4, a5, a6, _, _, _⟩ := h.2.2.2.2.2.1 j hj
  exact ⟨w', t', b', a1, a2, a3, a4, a5, a6, fun q => absurd q (by decide), fun _ => hm, fun q => absurd q (by decide)⟩
theorem inv_rfs {M : MS} {j : Nat} (h : Inv M) (hL4 : nx (M.1 35) < 400) (hj : j < nx (M.1 35)) (hm : ¬ M.2.1 43 j = 0) : Inv (rfsM M j) := by
  unfold rfsM
  exact inv_ans5 (M := sS M 50 (M.1 50 + 1)) (inv_sS h (by decide)) hL4 hj hm
theorem inv_lte {M : MS} {j : Nat} (h : Inv M) (hL4 : nx (M.1 35) < 400) (hj : j < nx (M.1 35)) : Inv (lteM M j) := by
  unfold lteM
  exact inv_ans7 (M := sS M 51 (M.1 51 + 1)) (inv_sS h (by decide)) hL4 hj
theorem inv_18 {M : MS} {t : Nat} (v : Int64) (h : Inv M) (ht : t < nx (M.1 11)) : Inv (sL M 18 t v) := by
  obtain ⟨x, b, g⟩ := h.2.1 t ht
  exact inv_th h ht ⟨rfl, rfl, rfl, rfl, rfl, rfl⟩ rfl (fun _ _ => rfl) (fun _ _ _ _ => rfl) (fun _ _ => rfl) (fun _ _ => rfl) (fun i hi => sL_n _ _ _ _ hi) (fun f hf => sL_k _ _ _ ((by decide : ∀ f ∈ ([33, 34, 57] : List Nat), f ≠ 18) f hf)) x b g
theorem inv_grt {M : MS} {t a : Nat} (h : Inv M) (ht : t < nx (M.1 11)) : Inv (grtM M t a) := by
  have h1 := inv_18 (M.2.2 18 t + 1) h ht
  unfold grtM
  exact inv_sS ((h1.same (sV_sL (by decide))).same (sV_sL (by decide))) (by decide)
theorem inv_add {M : MS} {t w : Nat} (h : Inv M) (ht : t < nx (M.1 11)) (hg : nx (M.2.1 21 t) < 20) (hw : w < nx (M.1 6)) (hn : ∀ i, i < nx (M.2.1 21 t) → ¬ M.2.1 22 (20 * t + i) = nI w) : Inv (sI (sI M 21 t (M.2.1 21 t + 1)) 22 (20 * t + nx (M.2.1 21 t)) (nI w)) := by
  obtain ⟨x, b, g⟩ := h.2.1 t ht
  have e := cntS x.1 (by omega)
  have e21 : (sI (sI M 21 t (M.2.1 21 t + 1)) 22 (20 * t + nx (M.2.1 21 t)) (nI w)).2.1 21 t = nI (nx (M.2.1 21 t) + 1) := by
    rw [← e.2.2]; simp [sI_at]
  have hk : ∀ f, f ≠ 21 → f ≠ 22 → (sI (sI M 21 t (M.2.1 21 t + 1)) 22 (20 * t + nx (M.2.1 21 t)) (nI w)).2.1 f = M.2.1 f := fun f h1 h2 => by rw [sI_k _ _ _ h2, sI_k _ _ _ h1]
  have v22 : ∀ i, (sI (sI M 21 t (M.2.1 21 t + 1)) 22 (20 * t + nx (M.2.1 21 t)) (nI w)).2.1 22 i = if i = 20 * t + nx (M.2.1 21 t) then nI w else M.2.1 22 i := fun i => by simp [sI_at]
  have n21 : ∀ i, i ≠ t → (sI (sI M 21 t (M.2.1 21 t + 1)) 22 (20 * t + nx (M.2.1 21 t)) (nI w)).2.1 21 i = M.2.1 21 i := fun i hi => by simp [sI_at, hi]
  have s1 : (sI (sI M 21 t (M.2.1 21 t + 1)) 22 (20 * t + nx (M.2.1 21 t)) (nI w)).1 = M.1 := rfl
  have s2 : (sI (sI M 21 t (M.2.1 21 t + 1)) 22 (20 * t + nx (M.2.1 21 t)) (nI w)).2.2 = M.2.2 := rfl
  generalize sI (sI M 21 t (M.2.1 21 t + 1)) 22 (20 * t + nx (M.2.1 21 t)) (nI w) = A at *
  have m21 : nx (A.2.1 21 t) = nx (M.2.1 21 t) + 1 := by rw [e21]; exact nx_nI (by omega)
  refine inv_th h ht ⟨by rw [s1], by rw [s1], by rw [s1], by rw [s1], by rw [s1], by rw [s1]⟩ (by rw [s1]) (fun f hf => ?_) (fun f i hf hi => ?_) (fun i hi => ?_) (fun i _ => by rw [hk 17 (by decide) (by decide)]) (fun i _ => by rw [s2]) (fun f _ => by rw [s2]) (thI_of x e21 (by omega) (by rw [hk 16 (by decide) (by decide)]) (by rw [hk 20 (by decide) (by decide)]) (by rw [hk 12 (by decide) (by decide)]) (by rw [hk 15 (by decide) (by decide)]) (by rw [hk 14 (by decide) (by decide)])) (by rw [hk 20 (by decide) (by decide)]; exact b) ?_
  · have := (by decide : ∀ f ∈ ([5, 9, 12, 14, 29, 30, 31, 32, 36, 37, 38, 39, 43, 54, 55, 56] : List Nat), f ≠ 21 ∧ f ≠ 22) f hf
    exact hk f this.1 this.2
  · by_cases y : f = 21
    · subst y; exact n21 i hi
    · have := (by decide : ∀ f ∈ ([15, 16, 20, 21] : List Nat), f ≠ 22) f hf
      rw [hk f y this]
  · rw [v22, if_neg (by omega)]
  · obtain ⟨g1, g2, g3⟩ := g
    unfold grI
    rw [m21, s1, hk 16 (by decide) (by decide), hk 17 (by decide) (by decide)]
    refine ⟨fun i hi => ?_, fun p q hp hq y => ?_, g3⟩
    · rw [v22]
      by_cases z : i = nx (M.2.1 21 t)
      · rw [if_pos (by omega)]; exact ⟨w, hw, rfl⟩
      · rw [if_neg (by omega)]; exact g1 i (by omega)
    · rw [v22, v22] at y
      by_cases z1 : p = nx (M.2.1 21 t)
      · by_cases z2 : q = nx (M.2.1 21 t)
        · omega
        · rw [if_pos (by omega), if_neg (by omega)] at y
          exact absurd y.symm (hn q (by omega))
      · by_cases z2 : q = nx (M.2.1 21 t)
        · rw [if_neg (by omega), if_pos (by omega)] at y
          exact absurd y (hn p (by omega))
        · rw [if_neg (by omega), if_neg (by omega)] at y
          exact g2 p q (by omega) (by omega) y
theorem inv_qadd {M : MS} {t w : Nat} (h : Inv M) (ht : t < nx (M.1 11)) (h4 : M.2.1 12 t = 4) (hq : nx (M.2.1 16 t) < 8) (hw : w < nx (M.1 6)) : Inv (sI (sI M 17 (8 * t + nx (M.2.1 16 t)) (nI w)) 16 t (M.2.1 16 t + 1)) := by
  obtain ⟨x, b, g⟩ := h.2.1 t ht
  have e := cntS x.2.2.1 (by omega)
  have e16 : (sI (sI M 17 (8 * t + nx (M.2.1 16 t)) (nI w)) 16 t (M.2.1 16 t + 1)).2.1 16 t = nI (nx (M.2.1 16 t) + 1) := by
    rw [← e.2.2]; simp [sI_at]
  have hk : ∀ f, f ≠ 16 → f ≠ 17 → (sI (sI M 17 (8 * t + nx (M.2.1 16 t)) (nI w)) 16 t (M.2.1 16 t + 1)).2.1 f = M.2.1 f := fun f h1 h2 => by rw [sI_k _ _ _ h1, sI_k _ _ _ h2]
  have v17 : ∀ i, (sI (sI M 17 (8 * t + nx (M.2.1 16 t)) (nI w)) 16 t (M.2.1 16 t + 1)).2.1 17 i = if i = 8 * t + nx (M.2.1 16 t) then nI w else M.2.1 17 i := fun i => by simp [sI_at]
  have n16 : ∀ i, i ≠ t → (sI (sI M 17 (8 * t + nx (M.2.1 16 t)) (nI w)) 16 t (M.2.1 16 t + 1)).2.1 16 i = M.2.1 16 i := fun i hi => by simp [sI_at, hi]
  have s1 : (sI (sI M 17 (8 * t + nx (M.2.1 16 t)) (nI w)) 16 t (M.2.1 16 t + 1)).1 = M.1 := rfl
  have s2 : (sI (sI M 17 (8 * t + nx (M.2.1 16 t)) (nI w)) 16 t (M.2.1 16 t + 1)).2.2 = M.2.2 := rfl
  generalize sI (sI M 17 (8 * t + nx (M.2.1 16 t)) (nI w)) 16 t (M.2.1 16 t + 1) = A at *
  have m16 : nx (A.2.1 16 t) = nx (M.2.1 16 t) + 1 := by rw [e16]; exact nx_nI (by omega)
  obtain ⟨x1, x2, x3, x4, x5, x6, x7, x8⟩ := x
  refine inv_th h ht ⟨by rw [s1], by rw [s1], by rw [s1], by rw [s1], by rw [s1], by rw [s1]⟩ (by rw [s1]) (fun f hf => ?_) (fun f i hf hi => ?_) (fun i _ => by rw [hk 22 (by decide) (by decide)]) (fun i hi => ?_) (fun i _ => by rw [s2]) (fun f _ => by rw [s2]) ?_ (by rw [hk 20 (by decide) (by decide)]; exact b) ?_
  · have := (by decide : ∀ f ∈ ([5, 9, 12, 14, 29, 30, 31, 32, 36, 37, 38, 39, 43, 54, 55, 56] : List Nat), f ≠ 16 ∧ f ≠ 17) f hf
    exact hk f this.1 this.2
  · by_cases y : f = 16
    · subst y; exact n16 i hi
    · have := (by decide : ∀ f ∈ ([15, 16, 20, 21] : List Nat), f ≠ 17) f hf
      rw [hk f y this]
  · rw [v17, if_neg (by omega)]
  · unfold thI
    rw [m16, e16, hk 21 (by decide) (by decide), hk 20 (by decide) (by decide), hk 12 (by decide) (by decide), hk 15 (by decide) (by decide), hk 14 (by decide) (by decide)]
    exact ⟨x1, x2, rfl, by omega, fun _ => by omega, fun z => absurd h4 z, x7, x8⟩
  · obtain ⟨g1, g2, g3⟩ := g
    unfold grI
    rw [m16, s1, hk 21 (by decide) (by decide), hk 22 (by decide) (by decide)]
    refine ⟨g1, g2, fun i hi => ?_⟩
    rw [v17]
    by_cases z : i = nx (M.2.1 16 t)
    · rw [if_pos (by omega)]; exact ⟨w, hw, rfl⟩
    · rw [if_neg (by omega)]; exact g3 i (by omega)
/-- what one worker holds of one thing changes -/
theorem inv_at {M M' : MS} {w t : Nat} (h : Inv M) (hw : w < nx (M.1 6)) (ht : t < nx (M.1 11)) (s1 : sC M M') (s27 : M'.1 27 = M.1 27) (s3 : ∀ k, k ∉ ([29, 30, 31, 32] : List Nat) → M'.2.1 k = M.2.1 k) (s4 : ∀ k, k ∉ ([33, 34] : List Nat) → M'.2.2 k = M.2.2 k) (k1 : ∀ k i, i ≠ 20 * w + t → M'.2.1 k i = M.2.1 k i) (k2 : ∀ k i, i ≠ 20 * w + t → M'.2.2 k i = M.2.2 k i) (k3 : M'.2.1 29 (20 * w + t) = 0 ∨ M'.2.1 29 (20 * w + t) = 1) : Inv M' := by
  obtain ⟨i1, i2, i3, i4, i5, i6, i7, i8⟩ := h
  have hb := i1.1
  unfold bnd at hb
  have r2 : nx (M.1 2) ≤ nx (M'.1 2) := by rw [s1.2.1]; exact Nat.le_refl _
  have r6 : nx (M.1 6) ≤ nx (M'.1 6) := by rw [s1.2.2.1]; exact Nat.le_refl _
  have r11 : nx (M.1 11) ≤ nx (M'.1 11) := by rw [s1.2.2.2.1]; exact Nat.le_refl _
  have r35 : nx (M.1 35) ≤ nx (M'.1 35) := by rw [s1.2.2.2.2.1]; exact Nat.le_refl _
  refine ⟨iC_c s1 i1, iT_c (M := M) s1.2.2.2.1 r6 (s3 21 (by decide)) (s3 16 (by decide)) (s3 20 (by decide)) (s3 12 (by decide)) (s3 15 (by decide)) (s3 14 (by decide)) (s3 22 (by decide)) (s3 17 (by decide)) i2, iF_c (M := M) r11 (s3 21 (by decide)) (s3 20 (by decide)) (s4 18 (by decide)) (s3 16 (by decide)) (s3 17 (by decide)) i3, ?_, iS_c (M := M) r6 r35 (s3 9 (by decide)) i5, iL_c (M := M) r6 r11 r2 s1.2.2.2.2.1 (fun _ _ => by rw [s3 12 (by decide)]) (s3 36 (by decide)) (s3 37 (by decide)) (s3 38 (by decide)) (s3 39 (by decide)) (s3 43 (by decide)) i6, iK_c (M := M) r2 s27 (fun _ _ => by rw [s3 5 (by decide)]) i7, iY_c (M := M) r11 r35 (s3 54 (by decide)) (s3 55 (by decide)) (s3 56 (by decide)) (s4 57 (by decide)) i8⟩
  intro w' t' hw' ht'
  rw [s1.2.2.1, s1.2.2.2.1]
  obtain ⟨a, b, c⟩ := i4 w' t' hw' ht'
  by_cases e : 20 * w' + t' = 20 * w + t
  · have e1 : w' = w := by omega
    have e2 : t' = t := by omega
    subst e1; subst e2
    exact ⟨fun z => by omega, fun z => by omega, k3⟩
  · rw [k1 29 _ e, k1 30 _ e, k1 31 _ e, k1 32 _ e, k2 33 _ e, k2 34 _ e]
    exact ⟨a, b, c⟩
/-- a room for n has at most n that differ -/
theorem pigL : ∀ n (l : List Nat), l.Nodup → (∀ x, x ∈ l → x < n) → l.length ≤ n
  | 0, l, _, h => by
    cases l with
    | nil => exact Nat.le_refl _
    | cons x xs => exact absurd (h x List.mem_cons_self) (by omega)
  | n + 1, l, hd, h => by
    have ih := pigL n (l.erase n) (hd.erase n) (fun x hx => by
      have := (hd.mem_erase_iff).mp hx
      have := h x this.2
      omega)
    rw [List.length_erase] at ih
    split at ih <;> omega
theorem pigF {n g : Nat} (f : Nat → Nat) (h1 : ∀ i, i < g → f i < n) (h2 : ∀ p q, p < g → q < g → f p = f q → p = q) : g ≤ n := by
  have := pigL n ((List.range g).map f) (by
    unfold List.Nodup
    rw [List.pairwise_map]
    refine List.Pairwise.imp_of_mem ?_ List.pairwise_lt_range
    intro p q hp hq hlt e
    have := h2 p q (List.mem_range.mp hp) (List.mem_range.mp hq) e
    omega) (fun x hx => by
    obtain ⟨i, hi, rfl⟩ := List.mem_map.mp hx
    exact h1 i (List.mem_range.mp hi))
  rwa [List.length_map, List.length_range] at this
theorem gof_non {M : MS} {t g : Nat} {w : Int32} (h : gof M t w g = none) : ∀ i, i < g → ¬ M.2.1 22 (20 * t + i) = w := by
  intro i hi e
  unfold gof at h
  rw [List.find?_eq_none] at h
  exact h i (List.mem_range.mpr hi) (by simpa using e)
theorem gr_room {M : MS} {t w W g : Nat} (hW : W ≤ 20) (h1 : ∀ i, i < g → ∃ w, w < W ∧ M.2.1 22 (20 * t + i) = nI w) (h2 : ∀ p q, p < g → q < g → M.2.1 22 (20 * t + p) = M.2.1 22 (20 * t + q) → p = q) (hw : w < W) (hn : gof M t (nI w) g = none) : g < 20 := by
  have hn2 := gof_non hn
  have key := pigF (n := W) (g := g + 1) (fun i => if i = g then w else nx (M.2.1 22 (20 * t + i))) (fun i hi => ?_) (fun p q hp hq e => ?_)
  · omega
  · show (if i = g then w else nx (M.2.1 22 (20 * t + i))) < W
    by_cases z : i = g
    · rw [if_pos z]; exact hw
    · rw [if_neg z]
      obtain ⟨v, hv, ev⟩ := h1 i (by omega)
      rw [ev, nx_nI (by omega)]; exact hv
  · replace e : (if p = g then w else nx (M.2.1 22 (20 * t + p))) = (if q = g then w else nx (M.2.1 22 (20 * t + q))) := e
    by_cases z1 : p = g
    · by_cases z2 : q = g
      · omega
      · rw [if_pos z1, if_neg z2] at e
        obtain ⟨v, hv, ev⟩ := h1 q (by omega)
        rw [ev, nx_nI (by omega)] at e
        exact absurd (by rw [ev, e]) (hn2 q (by omega))
    · obtain ⟨v, hv, ev⟩ := h1 p (by omega)
      by_cases z2 : q = g
      · rw [if_neg z1, if_pos z2, ev, nx_nI (by omega)] at e
        exact absurd (by rw [ev, e]) (hn2 p (by omega))
      · obtain ⟨v2, hv2, ev2⟩ := h1 q (by omega)
        rw [if_neg z1, if_neg z2, ev, ev2, nx_nI (by omega), nx_nI (by omega)] at e
        exact h2 p q (by omega) (by omega) (by rw [ev, ev2, e])
