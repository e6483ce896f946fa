/-! ===== the invariant is kept: a letter is delivered ===== -/
theorem ite_invM {c : Prop} [Decidable c] {a b : MS} (ha : Inv a) (hb : Inv b) : Inv (if c then a else b) := by
  by_cases h : c
  · rw [if_pos h]; exact ha
  · rw [if_neg h]; exact hb
theorem inv_pr {a : Int32} {X : MS} (h : Inv X) : Inv ((a, X) : Int32 × MS).2 := h
theorem nmem {k a : Nat} {l : List Nat} (hk : k ∉ l) (ha : a ∈ l) : k ≠ a := fun z => hk (by rw [z]; exact ha)
theorem inv_32 {M : MS} {w t : Nat} (v : Int32) (h : Inv M) (hw : w < nx (M.1 6)) (ht : t < nx (M.1 11)) : Inv (sI M 32 (20 * w + t) v) := by
  have hb := h.1.1
  unfold bnd at hb
  refine inv_at h hw ht ⟨rfl, rfl, rfl, rfl, rfl, rfl⟩ rfl (fun k hk => sI_k _ _ _ (nmem hk (by decide))) (fun _ _ => rfl) (fun k i hi => sI_n _ _ _ _ hi) (fun _ _ _ => rfl) ?_
  exact (h.2.2.2.1 w t (by omega) (by omega)).2.2
theorem inv_29 {M : MS} {w t : Nat} {v : Int32} (h : Inv M) (hw : w < nx (M.1 6)) (ht : t < nx (M.1 11)) (hv : v = 0 ∨ v = 1) : Inv (sI M 29 (20 * w + t) v) := by
  refine inv_at h hw ht ⟨rfl, rfl, rfl, rfl, rfl, rfl⟩ rfl (fun k hk => sI_k _ _ _ (nmem hk (by decide))) (fun _ _ => rfl) (fun k i hi => sI_n _ _ _ _ hi) (fun _ _ _ => rfl) ?_
  rw [sI_at, if_pos ⟨rfl, rfl⟩]; exact hv
theorem inv_30 {M : MS} {w t : Nat} (v30 v31 : Int32) (v33 v34 : Int64) (h : Inv M) (hw : w < nx (M.1 6)) (ht : t < nx (M.1 11)) : Inv (sL (sL (sI (sI M 30 (20 * w + t) v30) 31 (20 * w + t) v31) 33 (20 * w + t) v33) 34 (20 * w + t) v34) := by
  have hb := h.1.1
  unfold bnd at hb
  refine inv_at h hw ht ⟨rfl, rfl, rfl, rfl, rfl, rfl⟩ rfl (fun k hk => ?_) (fun k hk => ?_) (fun k i hi => ?_) (fun k i hi => ?_) ?_
  · rw [sL_1, sL_1, sI_k _ _ _ (nmem (a := 31) hk (by decide)), sI_k _ _ _ (nmem (a := 30) hk (by decide))]
  · rw [sL_k _ _ _ (nmem (a := 34) hk (by decide)), sL_k _ _ _ (nmem (a := 33) hk (by decide))]; rfl
  · rw [sL_1, sL_1, sI_n _ _ _ _ hi, sI_n _ _ _ _ hi]
  · rw [sL_n _ _ _ _ hi, sL_n _ _ _ _ hi]; rfl
  · exact (h.2.2.2.1 w t (by omega) (by omega)).2.2
theorem inv_twG {M : MS} {w t : Nat} (j : Nat) (h : Inv M) (hw : w < nx (M.1 6)) (ht : t < nx (M.1 11)) : Inv (twG M j w t) := by
  have h1 := inv_32 0 h hw ht
  unfold twG
  exact ite_invM h1 (inv_30 _ _ _ _ (inv_29 (v := 1) h1 hw ht (Or.inr rfl)) hw ht)
theorem inv_twM {M : MS} {j : Nat} (h : Inv M) (hj : j < nx (M.1 35)) : Inv (twM M j) := by
  have hb := h.1.1
  unfold bnd at hb
  obtain ⟨w, t, b, a1, a2, a3, a4, a5, a6, _, _, _⟩ := h.2.2.2.2.2.1 j hj
  have ew : nx (M.2.1 37 j) = w := by rw [a4]; exact nx_nI (by omega)
  have et : nx (M.2.1 39 j) = t := by rw [a5]; exact nx_nI (by omega)
  unfold twM
  simp only []
  rw [ew, et]
  refine ite_invM (ite_invM (inv_twG j h a1 a2) h) (ite_invM (inv_32 _ h a1 a2) (ite_invM (inv_29 h a1 a2 ?_) (inv_sS h (by decide))))
  by_cases z : M.2.1 29 (20 * w + t) = 0
  · rw [if_pos z]; exact Or.inl rfl
  · rw [if_neg z]
    by_cases y : M.2.2 33 (20 * w + t) = M.2.2 44 j
    · rw [if_pos y]; exact Or.inl rfl
    · rw [if_neg y]; exact Or.inr rfl
theorem inv_askG {M : MS} {j t w : Nat} (h : Inv M) (ht : t < nx (M.1 11)) (hg : nx (M.2.1 21 t) < 20) (hw : w < nx (M.1 6)) (hn : ∀ i, i < nx (M.2.1 21 t) → ¬ M.2.1 22 (20 * t + i) = nI w) (ew : M.2.1 37 j = nI w) (hL4 : nx (M.1 35) < 400) (hj : j < nx (M.1 35)) (hm : ¬ M.2.1 43 j = 0) : Inv (askG M j t) := by
  have h1 := inv_add h ht hg hw hn
  rw [← ew] at h1
  unfold askG
  exact inv_grs (inv_grt (Inv.same (sV_sI (by decide)) (Inv.same (sV_sI (by decide)) h1)) ht) hL4 hj hm
theorem askQ_s (M : MS) (j t : Nat) : (askQ M j t).1 = M.1 ∧ (askQ M j t).2.2 = M.2.2 ∧ ∀ k, k ≠ 16 → k ≠ 17 → k ≠ 20 → (askQ M j t).2.1 k = M.2.1 k := by
  unfold askQ
  split
  · exact unqM_same M t _ _
  · exact ⟨rfl, rfl, fun _ _ _ _ => rfl⟩
theorem inv_askQ {M : MS} {j t : Nat} (h : Inv M) (ht : t < nx (M.1 11)) : Inv (askQ M j t) := by
  unfold askQ
  split
  · rename_i b hb
    exact inv_unq h ht (qat_lt hb).1
  · exact h
theorem inv_ask {M : MS} {j t w : Nat} (h : Inv M) (ht : t < nx (M.1 11)) (hw : w < nx (M.1 6)) (ew : M.2.1 37 j = nI w) (hL4 : nx (M.1 35) < 400) (hj : j < nx (M.1 35)) (hm : ¬ M.2.1 43 j = 0) : Inv (askM M j t) := by
  have hb := h.1.1
  unfold bnd at hb
  have hr := inv_rfs h hL4 hj hm
  obtain ⟨x, b, g⟩ := h.2.1 t ht
  unfold askM
  by_cases z1 : gof M t (M.2.1 37 j) (nx (M.2.1 21 t)) ≠ none
  · rw [if_pos z1]; exact hr
  · rw [if_neg z1]
    have zn : gof M t (nI w) (nx (M.2.1 21 t)) = none := by rw [← ew]; exact Classical.not_not.mp z1
    by_cases z2 : fts M t (M.2.1 37 j) (M.2.1 40 j) (M.2.1 41 j) = true
    · rw [if_pos z2]
      have hQ := inv_askQ (j := j) h ht
      obtain ⟨s1, s2, s3⟩ := askQ_s M j t
      have hg := gr_room hb.2.1 g.1 g.2.1 hw zn
      have hn := gof_non zn
      generalize askQ M j t = B at hQ s1 s2 s3
      have e21 := s3 21 (by decide) (by decide) (by decide)
      have e22 := s3 22 (by decide) (by decide) (by decide)
      have e37 := s3 37 (by decide) (by decide) (by decide)
      have e43 := s3 43 (by decide) (by decide) (by decide)
      exact inv_askG hQ (by rw [s1]; exact ht) (by rw [e21]; exact hg) (by rw [s1]; exact hw) (by rw [e21, e22]; exact hn) (by rw [e37]; exact ew) (by rw [s1]; exact hL4) (by rw [s1]; exact hj) (by rw [e43]; exact hm)
    · rw [if_neg z2]
      by_cases z4 : M.2.1 12 t = 4
      · rw [if_pos z4]
        by_cases z5 : qat M t (M.2.1 37 j) (nx (M.2.1 16 t)) = none
        · rw [if_pos z5]
          by_cases z6 : M.2.1 16 t = 8
          · rw [if_pos z6]; exact hr
          · rw [if_neg z6]
            have hq := inv_qadd h ht z4 (eq8 x.2.2.2.1 (by rw [← x.2.2.1]; exact z6)) hw
            rw [← ew] at hq
            exact hq
        · rw [if_neg z5]; exact h
      · rw [if_neg z4]; exact hr
theorem inv_prl {M : MS} {j t a : Nat} (h : Inv M) (hL4 : nx (M.1 35) < 400) (hj : j < nx (M.1 35)) (hm : ¬ M.2.1 43 j = 0) : Inv (prlM M j t a) := by
  unfold prlM
  exact inv_grs (Inv.same (sV_sL (by decide)) h) hL4 hj hm
theorem inv_ris {M : MS} {j t : Nat} (h : Inv M) (ht : t < nx (M.1 11)) (h3 : M.2.1 12 t = 3) (hL4 : nx (M.1 35) < 400) (hj : j < nx (M.1 35)) (hm : ¬ M.2.1 43 j = 0) : Inv (risM M j t) := by
  unfold risM
  split
  · exact inv_lte h hL4 hj
  · have h1 := inv_15 (M.2.1 37 j) h ht (fun z => absurd h3 z)
    have h2 : Inv (sI (sI M 15 t (M.2.1 37 j)) 23 (20 * t) 0) := Inv.same (sV_sI (by decide)) h1
    have h4 := inv_grt (a := 0) h2 ht
    have h5 := inv_15 (-1) h4 ht (fun _ => rfl)
    exact ite_invM (inv_prl h hL4 hj hm) (ite_invM (inv_rfs h hL4 hj hm) (ite_invM (inv_grs h5 hL4 hj hm) h1))
theorem inv_tkM {M : MS} {j : Nat} (h : Inv M) (hL3 : nx (M.1 35) + 3 ≤ 400) (hj : j < nx (M.1 35)) (hl : ¬ M.1 27 = -1) (hk : M.2.1 36 j < 4) : Inv (tkM M j) := by
  have hb := h.1.1
  unfold bnd at hb
  obtain ⟨w, t, b, a1, a2, a3, a4, a5, a6, a7, _, a9⟩ := h.2.2.2.2.2.1 j hj
  have et : nx (M.2.1 39 j) = t := by rw [a5]; exact nx_nI (by omega)
  have hA := inv_looks h a2 (by omega) hl
  obtain ⟨o1, o2, o3, o4, o5⟩ := looks_ok M t
  have e := cntS h.1.2.1.2.2.2.1 (by omega)
  unfold tkM
  simp only []
  rw [et]
  generalize looksM M t = A at hA o1 o2 o3 o4 o5
  have c6 := o1 6 (by decide)
  have c11 := o1 11 (by decide)
  have c27 := o1 27 (by decide)
  have l1 : nx (M.1 35) ≤ nx (A.1 35) ∧ nx (A.1 35) ≤ nx (M.1 35) + 1 := by
    rcases o2 with q | q
    · rw [q]; omega
    · rw [q, e.2.1]; omega
  have hjn : j ≠ nx (M.1 35) := by omega
  have v36 := o4 36 j (by decide) hjn
  have v37 := o4 37 j (by decide) hjn
  have v43 := o4 43 j (by decide) hjn
  have v12 := o3 12 (by omega)
  have hL4 : nx (A.1 35) < 400 := by omega
  have hj2 : j < nx (A.1 35) := by omega
  have ht2 : t < nx (A.1 11) := by rw [c11]; exact a2
  have hm : ¬ A.2.1 36 j = 2 → ¬ A.2.1 43 j = 0 := fun q => by rw [v43]; exact a9 hk (by rw [← v36]; exact q)
  by_cases k0 : A.2.1 36 j = 0
  · rw [if_pos k0]
    exact inv_ask hA ht2 (by rw [c6]; exact a1) (by rw [v37]; exact a4) hL4 hj2 (hm (by rw [k0]; decide))
  · rw [if_neg k0]
    by_cases k1 : A.2.1 36 j = 1
    · rw [if_pos k1]
      split
      · exact inv_lte hA hL4 hj2
      · exact inv_prl hA hL4 hj2 (hm (by rw [k1]; decide))
    · rw [if_neg k1]
      by_cases k2 : A.2.1 36 j = 2
      · rw [if_pos k2]
        split
        · exact hA
        · rename_i a ha
          have hG := inv_goM hA ht2 (mnt_lt ha)
          have s1 := (goM_same A t a (nx (A.2.1 21 t) - 1 - a)).1
          generalize goM A t a (nx (A.2.1 21 t) - 1 - a) = B at hG s1
          exact inv_looks hG (by rw [s1]; exact ht2) (by rw [s1]; exact hL4) (by rw [s1, c27]; exact hl)
      · rw [if_neg k2]
        exact inv_ris hA ht2 (by rw [v12]; exact a7 hk (by rw [← v36]; exact k0) (by rw [← v36]; exact k1) (by rw [← v36]; exact k2)) hL4 hj2 (hm k2)
theorem Inv.deliver {M : MS} (v : Int32) (h : Inv M) : Inv (f_deliver M v).2 := by
  unfold f_deliver
  by_cases z : isIx v (nx (M.1 35)) = false
  · rw [if_pos z]; exact h
  · rw [if_neg z]
    have hb := h.1.1
    unfold bnd at hb
    obtain ⟨j, hj, rfl⟩ := isIx_t (by simpa using z) (by omega)
    rw [nx_nI (show j < 2 ^ 31 by omega)]
    have hB : Inv (sI M 42 j 1) := h.same (sV_sI (by decide))
    refine ite_inv ?_ h
    by_cases z3 : M.1 35 + 3 ≤ 400
    · rw [if_pos z3]
      have hL3 := (le397 h.1.2.1.2.2.2.1 hb.2.2.2.1).mp z3
      by_cases z4 : M.2.1 36 j < 4
      · rw [if_pos z4]
        by_cases z5 : M.1 27 = M.2.1 38 j
        · rw [if_pos z5]
          refine ite_inv hB (ite_inv hB ?_)
          obtain ⟨w, t, b, a1, a2, a3, a4, a5, a6, _, _, _⟩ := h.2.2.2.2.2.1 j hj
          have hl : ¬ M.1 27 = -1 := by
            rw [z5, a6]
            intro q
            have := congrArg nx q
            rw [nx_nI (by omega)] at this
            have hneg : ∀ b, b < 5 → ¬ nI b = -1 := by decide
            exact hneg b (by omega) q
          have z7 : (sI M 42 j 1).2.1 36 j < 4 := by rw [sI_k M j 1 (show 36 ≠ 42 by decide)]; exact z4
          have hT := inv_tkM (M := sI M 42 j 1) (j := j) hB hL3 hj hl z7
          exact inv_pr hT
        · rw [if_neg z5]; exact hB
      · rw [if_neg z4]
        have hW := inv_twM (M := sI M 42 j 1) (j := j) hB hj
        exact ite_inv (inv_pr hB) (inv_pr hW)
    · rw [if_neg z3]; exact h
