/-! ===== the invariant is kept: trays; the first state ===== -/
theorem putOk_w {M : MS} {what n : Int32} (h : putOk M what n = true) : (what = 0 ∨ what = 1 ∨ what = 2 ∨ what = 3 ∨ what = 4) ∧ (what = 1 ∨ what = 3 ∨ what = 4 → isIx n (nx (M.1 11)) = true) ∧ (what = 2 → isIx n (nx (M.1 35)) = true) := by
  unfold putOk at h
  by_cases z0 : what = 0
  · exact ⟨Or.inl z0, fun q => by rw [z0] at q; exact absurd q (by decide), fun q => by rw [z0] at q; exact absurd q (by decide)⟩
  · rw [if_neg z0] at h
    by_cases z2 : what = 2
    · rw [if_pos z2] at h
      exact ⟨Or.inr (Or.inr (Or.inl z2)), fun q => by rw [z2] at q; exact absurd q (by decide), fun _ => h⟩
    · rw [if_neg z2] at h
      by_cases z1 : what = 1
      · rw [if_pos z1] at h
        exact ⟨Or.inr (Or.inl z1), fun _ => h, fun q => absurd q z2⟩
      · rw [if_neg z1] at h
        by_cases z3 : what = 3
        · rw [if_pos z3] at h
          exact ⟨Or.inr (Or.inr (Or.inr (Or.inl z3))), fun _ => h, fun q => absurd q z2⟩
        · rw [if_neg z3] at h
          by_cases z4 : what = 4
          · rw [if_pos z4] at h
            exact ⟨Or.inr (Or.inr (Or.inr (Or.inr z4))), fun _ => h, fun q => absurd q z2⟩
          · rw [if_neg z4] at h
            exact absurd h (by decide)
theorem inv_tr {M M' : MS} {y : Nat} (h : Inv M) (s1 : M'.1 = M.1) (s2 : ∀ f, f ∉ ([54, 55, 56] : List Nat) → M'.2.1 f = M.2.1 f) (s3 : ∀ f, f ≠ 57 → M'.2.2 f = M.2.2 f) (n1 : ∀ f i, i ≠ y → M'.2.1 f i = M.2.1 f i) (n2 : ∀ i, i / 20 ≠ y → M'.2.2 57 i = M.2.2 57 i) (hy : t54 M' y ∧ (M'.2.1 54 y = 1 → nx (M'.2.1 55 y) < nx (M.1 11) ∧ ∃ t, t < 20 ∧ M'.2.1 55 y = nI t) ∧ (M'.2.1 54 y = 2 → nx (M'.2.1 55 y) < nx (M.1 35) ∧ ∃ t, t < 400 ∧ M'.2.1 55 y = nI t) ∧ M'.2.1 56 y = nI (nx (M'.2.1 56 y)) ∧ nx (M'.2.1 56 y) ≤ 20 ∧ (M'.2.1 54 y = 4 → ∀ q, q < nx (M'.2.1 56 y) → M'.2.2 57 (20 * y + q) = 0 ∨ M'.2.2 57 (20 * y + q) = 1)) : Inv M' := by
  obtain ⟨i1, i2, i3, i4, i5, i6, i7, i8⟩ := h
  have r : ∀ f, nx (M.1 f) ≤ nx (M'.1 f) := fun f => by rw [s1]; exact Nat.le_refl _
  refine ⟨iC_c (M := M) ⟨by rw [s1], by rw [s1], by rw [s1], by rw [s1], by rw [s1], by rw [s1]⟩ i1, iT_c (M := M) (by rw [s1]) (r 6) (s2 21 (by decide)) (s2 16 (by decide)) (s2 20 (by decide)) (s2 12 (by decide)) (s2 15 (by decide)) (s2 14 (by decide)) (s2 22 (by decide)) (s2 17 (by decide)) i2, iF_c (M := M) (r 11) (s2 21 (by decide)) (s2 20 (by decide)) (s3 18 (by decide)) (s2 16 (by decide)) (s2 17 (by decide)) i3, iM_c (M := M) (r 6) (r 11) (s2 29 (by decide)) (s2 30 (by decide)) (s2 31 (by decide)) (s2 32 (by decide)) (s3 33 (by decide)) (s3 34 (by decide)) i4, iS_c (M := M) (r 6) (r 35) (s2 9 (by decide)) i5, iL_c (M := M) (r 6) (r 11) (r 2) (by rw [s1]) (fun _ _ => by rw [s2 12 (by decide)]) (s2 36 (by decide)) (s2 37 (by decide)) (s2 38 (by decide)) (s2 39 (by decide)) (s2 43 (by decide)) i6, iK_c (M := M) (r 2) (by rw [s1]) (fun _ _ => by rw [s2 5 (by decide)]) i7, ?_⟩
  intro y' hy'
  rw [s1]
  by_cases e : y' = y
  · subst e; exact hy
  · obtain ⟨a, b, c, d1, d2, d3⟩ := i8 y' hy'
    unfold t54
    rw [n1 54 y' e, n1 55 y' e, n1 56 y' e]
    refine ⟨a, b, c, d1, d2, fun z q hq => ?_⟩
    rw [n2 _ (by omega)]
    exact d3 z q hq
theorem Inv.put {M : MS} (tr what n : Int32) (h : Inv M) : Inv (f_put M tr what n).2 := by
  have hb := h.1.1
  unfold bnd at hb
  unfold f_put
  by_cases z1 : fin tr 0 5 = false
  · rw [if_pos z1]; exact inv_pr (inv_sS h (by decide))
  · rw [if_neg z1]
    by_cases z2 : putOk M what n = false
    · rw [if_pos z2]; exact inv_pr (inv_sS h (by decide))
    · rw [if_neg z2]
      refine inv_pr (inv_sS ?_ (by decide))
      obtain ⟨y, hy, rfl⟩ := fin_ix5 (by simpa using z1)
      rw [nx_nI (show y < 2 ^ 31 by omega)]
      obtain ⟨w1, w2, w3⟩ := putOk_w (by simpa using z2)
      have hc : ∃ c, c ≤ 20 ∧ (if what = 3 then M.2.1 21 (nx n) else if what = 4 then M.1 6 else 0) = nI c := by
        by_cases q3 : what = 3
        · rw [if_pos q3]
          obtain ⟨t, ht, rfl⟩ := isIx_t (w2 (Or.inr (Or.inl q3))) (by omega)
          rw [nx_nI (by omega)]
          have x := (h.2.1 t ht).1
          exact ⟨_, x.2.1, x.1⟩
        · rw [if_neg q3]
          by_cases q4 : what = 4
          · rw [if_pos q4]; exact ⟨_, hb.2.1, h.1.2.1.2.1⟩
          · rw [if_neg q4]; exact ⟨0, by omega, rfl⟩
      obtain ⟨c, hc20, ec⟩ := hc
      rw [ec, nx_nI (by omega)]
      obtain ⟨p1, p2⟩ := putR_1 M y what n c
      obtain ⟨v1, v2⟩ := putR_v M y what n c
      obtain ⟨u1, u2, u3⟩ := put_54 M y what n c
      have u7 : ∀ q, q < c → (putR M y what n c).2.2 57 (20 * y + q) = ptV M what n q := fun q hq => put_57 M y what n hq
      have nn := put_c2 M y what n c
      rw [ec] at u3
      generalize putR M y what n c = A at *
      refine inv_tr (y := y) h p1 (fun f hf => ?_) v1 (fun f i hi => ?_) (fun i hi => ?_) ?_
      · rw [p2]
        exact putB_k M y what n ⟨fun q => hf (by rw [q]; decide), fun q => hf (by rw [q]; decide), fun q => hf (by rw [q]; decide)⟩
      · rw [nn f i (Or.inr hi), sI_n _ _ _ _ hi]
      · rw [v2 i, if_neg (by omega)]
      · unfold t54
        rw [u1, u2, u3, nx_nI (by omega)]
        refine ⟨w1, fun q => ?_, fun q => ?_, rfl, hc20, fun q p hp => ?_⟩
        · obtain ⟨t, ht, rfl⟩ := isIx_t (w2 (Or.inl q)) (by omega)
          rw [nx_nI (by omega)]; exact ⟨ht, t, by omega, rfl⟩
        · obtain ⟨t, ht, rfl⟩ := isIx_t (w3 q) (by omega)
          rw [nx_nI (by omega)]; exact ⟨ht, t, by omega, rfl⟩
        · rw [u7 p hp]
          unfold ptV
          rw [if_neg (by rw [q]; decide)]
          by_cases m : mayB M p (nx n) = false
          · rw [if_pos m]; exact Or.inl rfl
          · rw [if_neg m]; exact Or.inr rfl
theorem drf_r (d : Int32) : 0 ≤ drf d ∧ drf d ≤ 100 := by
  unfold drf
  by_cases a : 0 ≤ d
  · rw [if_pos a]
    by_cases b : d ≤ 100
    · rw [if_pos b]; exact ⟨a, b⟩
    · rw [if_neg b]; decide
  · rw [if_neg a]; decide
theorem Inv.first (d : Int32) : Inv (m0 (drf d)) := by
  have n0 : nx (0 : Int32) = 0 := by decide
  have c : ∀ k, k ≠ 0 → k ≠ 27 → (m0 (drf d)).1 k = 0 := fun k h1 h2 => by unfold m0; rw [sS_at, if_neg h1, sS_at, if_neg h2]; rfl
  have e1 : (m0 (drf d)).2.1 = fun _ _ => 0 := rfl
  have e2 : (m0 (drf d)).2.2 = fun _ _ => 0 := rfl
  have c2 := c 2 (by decide) (by decide)
  have c6 := c 6 (by decide) (by decide)
  have c11 := c 11 (by decide) (by decide)
  have c35 := c 35 (by decide) (by decide)
  have c46 := c 46 (by decide) (by decide)
  refine ⟨⟨?_, ?_, ?_⟩, ?_, ?_, ?_, ?_, ?_, ?_, ?_⟩
  · unfold bnd; rw [c2, c6, c11, c35, c46, n0]; omega
  · unfold cnts; rw [c2, c6, c11, c35, c46]; decide
  · unfold iD; exact drf_r d
  · intro t ht; rw [c11, n0] at ht; omega
  · intro t _ _; rw [e1, e2]; exact ⟨rfl, rfl, rfl, rfl, fun _ _ => rfl⟩
  · intro w t _ _; rw [e1, e2]; exact ⟨fun _ => ⟨rfl, rfl⟩, fun _ => ⟨rfl, rfl, rfl, rfl⟩, Or.inl rfl⟩
  · intro w _; rw [e1]; exact ⟨⟨0, Nat.zero_le _, rfl⟩, fun _ => rfl⟩
  · intro j hj; rw [c35, n0] at hj; omega
  · exact Or.inl rfl
  · intro y _
    unfold t54
    rw [e1, e2]
    exact ⟨Or.inl rfl, fun q => absurd q (show ¬ (0 : Int32) = 1 by decide), fun q => absurd q (show ¬ (0 : Int32) = 2 by decide), (show (0 : Int32) = nI (nx (0 : Int32)) by decide), (show nx (0 : Int32) ≤ 20 by decide), fun q => absurd q (show ¬ (0 : Int32) = 4 by decide)⟩
