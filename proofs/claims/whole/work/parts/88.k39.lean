/-! ===== the invariant is kept: ends, copies, looks ===== -/
theorem inv_snt {M M' : MS} (h : Inv M) (hL4 : nx (M.1 35) < 400) (hs : snt M M' (nx (M.1 35))) (hn : ltI M (M'.2.1 36 (nx (M.1 35))) (M'.2.1 37 (nx (M.1 35))) (M'.2.1 38 (nx (M.1 35))) (M'.2.1 39 (nx (M.1 35))) (M'.2.1 43 (nx (M.1 35)))) : Inv M' := by
  have e := cntS h.1.2.1.2.2.2.1 (by omega)
  refine Inv.snd h hL4 (fun f hf => hs.1 f ((by decide : ∀ f ∈ ([0, 2, 6, 11, 46, 27] : List Nat), f ≠ 35) f hf)) (by rw [hs.2.1]; exact e.2.2.symm) (fun f hf => funext (fun i => hs.2.2.1 f i (Or.inl ((by decide : ∀ f ∈ ([5, 12, 14, 15, 16, 17, 20, 21, 22, 29, 30, 31, 54, 55, 56] : List Nat), f ∉ ([36, 37, 38, 39, 40, 41, 42, 43] : List Nat)) f hf)))) (fun i => Or.inl (hs.2.2.1 32 i (Or.inl (by decide)))) (fun i => Or.inl (hs.2.2.1 9 i (Or.inl (by decide)))) (fun f j _ hj => hs.2.2.1 f j (Or.inr hj)) hn (fun f hf => funext (fun i => hs.2.2.2 f i (Or.inl ((by decide : ∀ f ∈ ([18, 33, 34, 57] : List Nat), f ∉ ([44, 45] : List Nat)) f hf))))
/-- what a worker holds or waits for may go -/
theorem inv_drop {M M' : MS} (h : Inv M) (s1 : M'.1 = M.1) (s2 : M'.2.2 = M.2.2) (s3 : ∀ k, k ≠ 29 → k ≠ 32 → M'.2.1 k = M.2.1 k) (key : ∀ i, (M'.2.1 29 i = M.2.1 29 i ∨ M'.2.1 29 i = 0) ∧ (M'.2.1 32 i = M.2.1 32 i ∨ M'.2.1 32 i = 0)) : Inv M' := by
  obtain ⟨⟨hb, hc, hd⟩, i2, i3, i4, i5, i6, i7, i8⟩ := h
  have r : ∀ f, nx (M.1 f) ≤ nx (M'.1 f) := fun f => by rw [s1]; exact Nat.le_refl _
  have k3 : ∀ f, f ∈ ([5, 9, 12, 14, 15, 16, 17, 20, 21, 22, 30, 31, 36, 37, 38, 39, 43, 54, 55, 56] : List Nat) → M'.2.1 f = M.2.1 f := fun f hf => by
    have := (by decide : ∀ f ∈ ([5, 9, 12, 14, 15, 16, 17, 20, 21, 22, 30, 31, 36, 37, 38, 39, 43, 54, 55, 56] : List Nat), f ≠ 29 ∧ f ≠ 32) f hf
    exact s3 f this.1 this.2
  refine ⟨⟨?_, ?_, ?_⟩, iT_c (M := M) (by rw [s1]) (r 6) (k3 21 (by decide)) (k3 16 (by decide)) (k3 20 (by decide)) (k3 12 (by decide)) (k3 15 (by decide)) (k3 14 (by decide)) (k3 22 (by decide)) (k3 17 (by decide)) i2, iF_c (M := M) (r 11) (k3 21 (by decide)) (k3 20 (by decide)) (by rw [s2]) (k3 16 (by decide)) (k3 17 (by decide)) i3, ?_, iS_c (M := M) (r 6) (r 35) (k3 9 (by decide)) i5, iL_c (M := M) (r 6) (r 11) (r 2) (by rw [s1]) (fun _ _ => by rw [k3 12 (by decide)]) (k3 36 (by decide)) (k3 37 (by decide)) (k3 38 (by decide)) (k3 39 (by decide)) (k3 43 (by decide)) i6, iK_c (M := M) (r 2) (by rw [s1]) (fun _ _ => by rw [k3 5 (by decide)]) i7, iY_c (M := M) (r 11) (r 35) (k3 54 (by decide)) (k3 55 (by decide)) (k3 56 (by decide)) (by rw [s2]) i8⟩
  · unfold bnd at *; rw [s1]; exact hb
  · unfold cnts at *; rw [s1]; exact hc
  · unfold iD at *; rw [s1]; exact hd
  · intro w t hw ht
    obtain ⟨a, b, c⟩ := i4 w t hw ht
    rw [s1, k3 30 (by decide), k3 31 (by decide), s2]
    obtain ⟨k1, k2⟩ := key (20 * w + t)
    refine ⟨fun z => ⟨?_, ?_⟩, b, ?_⟩
    · rcases k1 with q | q <;> rw [q]; exact (a z).1
    · rcases k2 with q | q <;> rw [q]; exact (a z).2
    · rcases k1 with q | q <;> rw [q]
      · exact c
      · exact Or.inl rfl
theorem inv_endM {M : MS} (h : Inv M) (hL4 : nx (M.1 35) < 400) {w t b : Nat} (hw : w < nx (M.1 6)) (ht : t < nx (M.1 11)) (hb : b < nx (M.1 2)) : Inv (endM M (nx (M.1 35)) w (nI b) t) := by
  have hB : Inv (sI (sI M 29 (20 * w + t) 0) 32 (20 * w + t) 0) := by
    refine inv_drop h rfl rfl (fun k h1 h2 => by rw [sI_k _ _ _ h2, sI_k _ _ _ h1]) (fun i => ?_)
    simp only [sI_at]
    by_cases e : i = 20 * w + t
    · simp [e]
    · simp [e]
  refine inv_snt hB hL4 (end_snt h.1.2.1.2.2.2.1 hL4) ?_
  have e36 : (endM M (nx (M.1 35)) w (nI b) t).2.1 36 (nx (M.1 35)) = 2 := by simp [endM, sndM, sI_at, sL_1, sS_1]
  have e37 : (endM M (nx (M.1 35)) w (nI b) t).2.1 37 (nx (M.1 35)) = nI w := by simp [endM, sndM, sI_at, sL_1, sS_1]
  have e38 : (endM M (nx (M.1 35)) w (nI b) t).2.1 38 (nx (M.1 35)) = nI b := by simp [endM, sndM, sI_at, sL_1, sS_1]
  have e39 : (endM M (nx (M.1 35)) w (nI b) t).2.1 39 (nx (M.1 35)) = nI t := by simp [endM, sndM, sI_at, sL_1, sS_1]
  show ltI _ ((endM M (nx (M.1 35)) w (nI b) t).2.1 36 (nx (M.1 35))) ((endM M (nx (M.1 35)) w (nI b) t).2.1 37 (nx (M.1 35))) ((endM M (nx (M.1 35)) w (nI b) t).2.1 38 (nx (M.1 35))) ((endM M (nx (M.1 35)) w (nI b) t).2.1 39 (nx (M.1 35))) ((endM M (nx (M.1 35)) w (nI b) t).2.1 43 (nx (M.1 35)))
  rw [e36, e37, e38, e39]
  exact ⟨w, t, b, hw, ht, hb, rfl, rfl, rfl, fun _ _ _ q => absurd rfl q, fun q => absurd q (by decide), fun _ q => absurd rfl q⟩
theorem Inv.ends {M : MS} (w k t : Int32) (h : Inv M) : Inv (f_end M w k t).2 := by
  unfold f_end
  by_cases z : thr M w k t = false
  · rw [if_pos z]; exact h
  · rw [if_neg z]
    obtain ⟨w', b', t', a1, a2, a3, a4, a5, a6, a7, a8⟩ := thr_x h.1.1 z
    rw [a5, a7, a8]
    refine ite_inv h (ite_inv h ?_)
    by_cases y : M.1 35 = 400
    · rw [if_pos y]; exact h
    · rw [if_neg y]
      exact inv_endM h (eq400 h.1.1.2.2.2.1 (by rw [← h.1.2.1.2.2.2.1]; exact y)) a1 a3 a2
theorem Inv.twice {M : MS} (v : Int32) (h : Inv M) : Inv (f_twice M v).2 := by
  unfold f_twice
  by_cases z : isIx v (nx (M.1 35)) = false
  · rw [if_pos z]; exact h
  · rw [if_neg z]
    by_cases y : M.1 35 = 400
    · rw [if_pos y]; exact h
    · rw [if_neg y]
      have hL4 := eq400 h.1.1.2.2.2.1 (by rw [← h.1.2.1.2.2.2.1]; exact y)
      obtain ⟨j, hj, rfl⟩ := isIx_t (by simpa using z) (by omega)
      rw [nx_nI (show j < 2 ^ 31 by omega)]
      have hne : j ≠ nx (M.1 35) := by omega
      refine inv_snt h hL4 (tw_snt h.1.2.1.2.2.2.1 hL4) ?_
      have e36 : (twcM M (nx (M.1 35)) j).2.1 36 (nx (M.1 35)) = M.2.1 36 j := by simp [twcM, sndM, sI_at, sL_1, sS_1]
      have e37 : (twcM M (nx (M.1 35)) j).2.1 37 (nx (M.1 35)) = M.2.1 37 j := by simp [twcM, sndM, sI_at, sL_1, sS_1]
      have e38 : (twcM M (nx (M.1 35)) j).2.1 38 (nx (M.1 35)) = M.2.1 38 j := by simp [twcM, sndM, sI_at, sL_1, sS_1]
      have e39 : (twcM M (nx (M.1 35)) j).2.1 39 (nx (M.1 35)) = M.2.1 39 j := by simp [twcM, sndM, sI_at, sL_1, sS_1]
      have e43 : (twcM M (nx (M.1 35)) j).2.1 43 (nx (M.1 35)) = M.2.1 43 j := by simp [twcM, sndM, sI_at, sL_1, sS_1, hne]
      rw [e36, e37, e38, e39, e43]
      exact h.2.2.2.2.2.1 j hj
/-- one thing's grants and queue change -/
theorem inv_th {M M' : MS} {t : Nat} (h : Inv M) (ht : t < nx (M.1 11)) (hc : sC M M') (h27 : M'.1 27 = M.1 27) (hk : ∀ f, f ∈ ([5, 9, 12, 14, 29, 30, 31, 32, 36, 37, 38, 39, 43, 54, 55, 56] : List Nat) → M'.2.1 f = M.2.1 f) (h1 : ∀ f i, f ∈ ([15, 16, 20, 21] : List Nat) → i ≠ t → M'.2.1 f i = M.2.1 f i) (h22 : ∀ i, i / 20 ≠ t → M'.2.1 22 i = M.2.1 22 i) (h17 : ∀ i, i / 8 ≠ t → M'.2.1 17 i = M.2.1 17 i) (h18 : ∀ i, i ≠ t → M'.2.2 18 i = M.2.2 18 i) (hq : ∀ f, f ∈ ([33, 34, 57] : List Nat) → M'.2.2 f = M.2.2 f) (a : thI M' t) (b : M'.2.1 20 t = 0 ∨ M'.2.1 20 t = 1) (g : grI M' t) : Inv M' := by
  obtain ⟨i1, i2, i3, i4, i5, i6, i7, i8⟩ := h
  have e2 : nx (M.1 2) ≤ nx (M'.1 2) := by rw [hc.2.1]; exact Nat.le_refl _
  have e6 : nx (M.1 6) ≤ nx (M'.1 6) := by rw [hc.2.2.1]; exact Nat.le_refl _
  have e11 : nx (M.1 11) ≤ nx (M'.1 11) := by rw [hc.2.2.2.1]; exact Nat.le_refl _
  have e35 : nx (M.1 35) ≤ nx (M'.1 35) := by rw [hc.2.2.2.2.1]; exact Nat.le_refl _
  refine ⟨iC_c hc i1, ?_, ?_, iM_c e6 e11 (hk 29 (by decide)) (hk 30 (by decide)) (hk 31 (by decide)) (hk 32 (by decide)) (hq 33 (by decide)) (hq 34 (by decide)) i4, iS_c e6 e35 (hk 9 (by decide)) i5, iL_c e6 e11 e2 hc.2.2.2.2.1 (fun _ _ => by rw [hk 12 (by decide)]) (hk 36 (by decide)) (hk 37 (by decide)) (hk 38 (by decide)) (hk 39 (by decide)) (hk 43 (by decide)) i6, iK_c e2 h27 (fun _ _ => by rw [hk 5 (by decide)]) i7, iY_c e11 e35 (hk 54 (by decide)) (hk 55 (by decide)) (hk 56 (by decide)) (hq 57 (by decide)) i8⟩
  · intro t' ht'
    rw [hc.2.2.2.1] at ht'
    by_cases e : t' = t
    · subst e; exact ⟨a, b, g⟩
    · obtain ⟨a', b', g'⟩ := i2 t' ht'
      have b1 := a'.2.1
      have b2 := a'.2.2.2.1
      exact ⟨thI_c (h1 21 t' (by decide) e) (h1 16 t' (by decide) e) (h1 20 t' (by decide) e) (by rw [hk 12 (by decide)]) (h1 15 t' (by decide) e) (by rw [hk 14 (by decide)]) a', by rw [h1 20 t' (by decide) e]; exact b', grI_c e6 (h1 21 t' (by decide) e) (h1 16 t' (by decide) e) (fun i hi => h22 _ (by omega)) (fun i hi => h17 _ (by omega)) g'⟩
  · intro t' h2 h3
    rw [hc.2.2.2.1] at h2
    have e : t' ≠ t := by omega
    obtain ⟨f1, f2, f3, f4, f5⟩ := i3 t' h2 h3
    exact ⟨by rw [h1 21 t' (by decide) e]; exact f1, by rw [h1 20 t' (by decide) e]; exact f2, by rw [h18 t' e]; exact f3, by rw [h1 16 t' (by decide) e]; exact f4, fun q hq8 => by rw [h17 _ (by omega)]; exact f5 q hq8⟩
/-- workers that are there, none twice -/
def grL (W : Nat) (l : List EN) : Prop := (∀ e, e ∈ l → ∃ w, w < W ∧ e.1 = nI w) ∧ l.Pairwise (fun a b => a.1 ≠ b.1)
theorem grL.sub {W : Nat} {l l' : List EN} (h : grL W l) (hs : l'.Sublist l) : grL W l' := ⟨fun e he => h.1 e (hs.subset he), h.2.sublist hs⟩
theorem grL_of {M : MS} {t : Nat} (h : grI M t) : grL (nx (M.1 6)) (gls M t) := by
  obtain ⟨a, b, _⟩ := h
  unfold gls
  refine ⟨fun e he => ?_, ?_⟩
  · obtain ⟨i, hi, rfl⟩ := List.mem_map.mp he
    exact a i (List.mem_range.mp hi)
  · rw [List.pairwise_map]
    refine List.Pairwise.imp_of_mem ?_ List.pairwise_lt_range
    intro p q hp hq hlt e
    have := b p q (List.mem_range.mp hp) (List.mem_range.mp hq) e
    omega
theorem grL_to {M : MS} {t W : Nat} (h : grL W (gls M t)) : (∀ i, i < nx (M.2.1 21 t) → ∃ w, w < W ∧ M.2.1 22 (20 * t + i) = nI w) ∧ ∀ p q, p < nx (M.2.1 21 t) → q < nx (M.2.1 21 t) → M.2.1 22 (20 * t + p) = M.2.1 22 (20 * t + q) → p = q := by
  obtain ⟨a, b⟩ := h
  have key : ∀ p q, p < q → q < nx (M.2.1 21 t) → M.2.1 22 (20 * t + p) = M.2.1 22 (20 * t + q) → False := by
    intro p q hpq hq e
    unfold gls at b
    rw [List.pairwise_map, List.pairwise_iff_getElem] at b
    have := b p q (by rw [List.length_range]; omega) (by rw [List.length_range]; omega) hpq
    rw [List.getElem_range, List.getElem_range] at this
    exact this e
  refine ⟨fun i hi => a _ (List.mem_of_getElem? (gls_get hi)), fun p q hp hq e => ?_⟩
  rcases Nat.lt_trichotomy p q with z | z | z
  · exact absurd e (key p q z hq)
  · exact z
  · exact absurd e.symm (key q p z hp)
theorem inv_lkM {M : MS} {t : Nat} (c : Int64) (h : Inv M) (ht : t < nx (M.1 11)) : Inv (lkM M t c 0 (nx (M.2.1 21 t))) := by
  obtain ⟨a, b, g⟩ := h.2.1 t ht
  have h20 := a.2.1
  obtain ⟨l1, l2⟩ := lk_sT t c (nx (M.2.1 21 t)) 0 M (by rw [Nat.zero_add]; exact a.1) (by omega)
  have hI := lkM_I c a
  generalize lkM M t c 0 (nx (M.2.1 21 t)) = A at l1 l2 hI
  obtain ⟨s1, s2, s3, s4⟩ := l1
  have hk : ∀ f, f ≠ 21 → f ∉ ([22, 23, 24] : List Nat) → A.2.1 f = M.2.1 f := fun f x y => funext (fun i => s2 f i x (Or.inl y))
  refine inv_th h ht ⟨by rw [s1], by rw [s1], by rw [s1], by rw [s1], by rw [s1], by rw [s1]⟩ (by rw [s1]) (fun f hf => ?_) (fun f i hf hi => ?_) (fun i hi => s2 22 i (by decide) (Or.inr hi)) (fun i _ => by rw [hk 17 (by decide) (by decide)]) (fun i _ => s4 18 i (Or.inl (by decide))) (fun f hf => funext (fun i => s4 f i (Or.inl ((by decide : ∀ f ∈ ([33, 34, 57] : List Nat), f ∉ ([25, 26] : List Nat)) f hf)))) hI (by rw [hk 20 (by decide) (by decide)]; exact b) ?_
  · have := (by decide : ∀ f ∈ ([5, 9, 12, 14, 29, 30, 31, 32, 36, 37, 38, 39, 43, 54, 55, 56] : List Nat), f ≠ 21 ∧ f ∉ ([22, 23, 24] : List Nat)) f hf
    exact hk f this.1 this.2
  · by_cases e : f = 21
    · subst e; exact s3 i hi
    · have := (by decide : ∀ f ∈ ([15, 16, 20, 21] : List Nat), f ∉ ([22, 23, 24] : List Nat)) f hf
      rw [hk f e this]
  · have hg : grL (nx (M.1 6)) (gls A t) := by
      rw [l2]
      simp only [List.take_zero, List.nil_append, List.drop_zero]
      exact (grL_of g).sub List.filter_sublist
    obtain ⟨g1, g2⟩ := grL_to hg
    refine ⟨by rw [s1]; exact g1, g2, ?_⟩
    rw [hk 16 (by decide) (by decide), hk 17 (by decide) (by decide), s1]
    exact g.2.2
