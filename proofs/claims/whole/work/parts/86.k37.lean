/-! ===== the invariant is kept: simple calls ===== -/
theorem inv_sS {M : MS} {k : Nat} {v : Int32} (h : Inv M) (hk : k ∉ ([0, 2, 6, 11, 35, 46, 27] : List Nat)) : Inv (sS M k v) := h.same (sV_sS hk)
theorem Inv.tick {M : MS} (n : Int32) (h : Inv M) : Inv (f_tick M n).2 := by
  unfold f_tick
  split
  · exact h
  · split
    · exact inv_sS h (by decide)
    · exact h
theorem Inv.store {M : MS} (h : Inv M) : Inv (f_store M).2 := by
  unfold f_store
  by_cases z : M.1 46 = 6
  · rw [if_pos z]; exact h
  · rw [if_neg z]
    obtain ⟨⟨hb, hc, hd⟩, i2, i3, i4, i5, i6, i7, i8⟩ := h
    have hb9 := hb
    unfold bnd at hb9
    have e := cntS hc.2.2.2.2 (by omega)
    have hlt : nx (M.1 46) < 6 := by
      rcases Nat.lt_or_ge (nx (M.1 46)) 6 with y | y
      · exact y
      · exact absurd (by rw [hc.2.2.2.2, show nx (M.1 46) = 6 by omega]; rfl) z
    refine ⟨⟨?_, ⟨hc.1, hc.2.1, hc.2.2.1, hc.2.2.2.1, ?_⟩, hd⟩, i2, i3, i4, i5, i6, i7, i8⟩
    · exact ⟨hb.1, hb.2.1, hb.2.2.1, hb.2.2.2.1, by show nx (M.1 46 + 1) ≤ 6; rw [e.2.1]; omega⟩
    · show M.1 46 + 1 = nI (nx (M.1 46 + 1)); exact e.1.symm
theorem Inv.lose {M : MS} (v : Int32) (h : Inv M) : Inv (f_lose M v).2 := by
  unfold f_lose
  split
  · exact h
  · split
    · exact h.same (sV_sI (by decide))
    · exact h
theorem Inv.write {M : MS} (w v s : Int32) (y : Int64) (h : Inv M) : Inv (f_write M w v s y).2 := by
  unfold f_write
  repeat' split
  all_goals first | exact h | exact (h.same (sV_sL (by decide))).same (sV_sL (by decide)) | exact inv_sS h (by decide)
theorem ite_inv {c : Prop} [Decidable c] {a b : Int32 × MS} (ha : Inv a.2) (hb : Inv b.2) : Inv (if c then a else b).2 := by
  by_cases h : c
  · rw [if_pos h]; exact ha
  · rw [if_neg h]; exact hb
theorem Inv.forge {M : MS} (tr what n : Int32) (h : Inv M) : Inv (f_forge M tr what n).2 := by
  have hs : ∀ (a v : Int32), Inv ((a, sS M 58 v) : Int32 × MS).2 := fun a v => inv_sS h (by decide)
  have h1 : ∀ y m, Inv (f_asThing M y m).2 := fun y m => by unfold f_asThing; exact ite_inv (hs _ _) (ite_inv (ite_inv (hs _ _) (hs _ _)) (hs _ _))
  have h2 : ∀ y m, Inv (f_asLetter M y m).2 := fun y m => by unfold f_asLetter; exact ite_inv (hs _ _) (ite_inv (ite_inv (hs _ _) (hs _ _)) (hs _ _))
  have h3 : ∀ y w m, Inv (f_asRow M y w m).2 := fun y w m => by unfold f_asRow; exact ite_inv (hs _ _) (ite_inv (ite_inv (hs _ _) (hs _ _)) (hs _ _))
  have h4 : ∀ y m, Inv (f_copied M y m).2 := fun y m => by unfold f_copied; exact ite_inv (hs _ _) (ite_inv (ite_inv (hs _ _) (ite_inv (hs _ _) (ite_inv (hs _ _) (hs _ _)))) (hs _ _))
  have h5 : ∀ y, Inv (f_laid M y).2 := fun y => by unfold f_laid; exact ite_inv (hs _ _) (ite_inv (ite_inv (hs _ _) (hs _ _)) (hs _ _))
  unfold f_forge
  exact ite_inv (hs _ _) (ite_inv (hs _ _) (ite_inv (hs _ _) (ite_inv (h1 _ _) (ite_inv (h2 _ _) (ite_inv (h3 _ _ _) (ite_inv (h3 _ _ _) (ite_inv (ite_inv (hs _ _) (hs _ _)) (ite_inv (h4 _ _) (ite_inv (h5 _) (ite_inv (ite_inv (hs _ _) (hs _ _)) (hs _ _)))))))))))
theorem Inv.keeper {M : MS} (b r : Int32) (h : Inv M) : Inv (f_keeper M b r).2 := by
  unfold f_keeper
  split
  · exact h
  · split
    · exact h
    · rename_i z
      obtain ⟨⟨hb, hc, hd⟩, i2, i3, i4, i5, i6, i7, i8⟩ := h
      have hb9 := hb
      unfold bnd at hb9
      have e := cntS hc.1 (by omega)
      have hlt : nx (M.1 2) < 5 := eq5 hb.1 (by rw [← hc.1]; exact z)
      have e2 : nx (M.1 2) ≤ nx (M.1 2 + 1) := by rw [e.2.1]; omega
      refine ⟨⟨⟨by show nx (M.1 2 + 1) ≤ 5; rw [e.2.1]; omega, hb.2.1, hb.2.2.1, hb.2.2.2.1, hb.2.2.2.2⟩, ⟨e.1.symm, hc.2.1, hc.2.2.1, hc.2.2.2.1, hc.2.2.2.2⟩, hd⟩, i2, i3, i4, i5, ?_, ?_, i8⟩
      · exact iL_c (M := M) (Nat.le_refl _) (Nat.le_refl _) e2 rfl (fun _ _ => rfl) rfl rfl rfl rfl rfl i6
      · refine iK_c (M := M) e2 rfl (fun k hk => ?_) i7
        show (sI _ 5 (nx (M.1 2)) 1).2.1 5 k = _
        rw [sI_n _ _ _ _ (by omega)]; rfl
theorem Inv.worker {M : MS} (b r : Int32) (h : Inv M) : Inv (f_worker M b r).2 := by
  unfold f_worker
  split
  · exact h
  · split
    · exact h
    · rename_i z
      obtain ⟨⟨hb, hc, hd⟩, i2, i3, i4, i5, i6, i7, i8⟩ := h
      have hb9 := hb
      unfold bnd at hb9
      have e := cntS hc.2.1 (by omega)
      have hlt : nx (M.1 6) < 20 := eq20 hb.2.1 (by rw [← hc.2.1]; exact z)
      have e6 : nx (M.1 6) ≤ nx (M.1 6 + 1) := by rw [e.2.1]; omega
      refine ⟨⟨⟨hb.1, by show nx (M.1 6 + 1) ≤ 20; rw [e.2.1]; omega, hb.2.2.1, hb.2.2.2.1, hb.2.2.2.2⟩, ⟨hc.1, e.1.symm, hc.2.2.1, hc.2.2.2.1, hc.2.2.2.2⟩, hd⟩, ?_, i3, ?_, ?_, ?_, i7, i8⟩
      · exact iT_c (M := M) rfl e6 rfl rfl rfl rfl rfl rfl rfl rfl i2
      · exact iM_c (M := M) e6 (Nat.le_refl _) rfl rfl rfl rfl rfl rfl i4
      · exact iS_c (M := M) e6 (Nat.le_refl _) rfl i5
      · exact iL_c (M := M) e6 (Nat.le_refl _) (Nat.le_refl _) rfl (fun _ _ => rfl) rfl rfl rfl rfl rfl i6
theorem Inv.wake {M : MS} (what who is : Int32) (h : Inv M) : Inv (f_wake M what who is).2 := by
  unfold f_wake
  split
  · rename_i z
    obtain ⟨⟨hb, hc, hd⟩, i2, i3, i4, i5, i6, i7, i8⟩ := h
    have hb9 := hb
    unfold bnd at hb9
    obtain ⟨j, hj, rfl⟩ := isIx_t z.2 (by omega)
    rw [nx_nI (show j < 2 ^ 31 by omega)]
    refine ⟨⟨hb, hc, hd⟩, i2, i3, i4, i5, i6, ?_, i8⟩
    show (if M.1 27 = nI j ∧ is = 0 then -1 else M.1 27) = -1 ∨ ∃ k, k < nx (M.1 2) ∧ (if M.1 27 = nI j ∧ is = 0 then -1 else M.1 27) = nI k ∧ ¬ (sI M 5 j is).2.1 5 k = 0
    by_cases y : M.1 27 = nI j ∧ is = 0
    · rw [if_pos y]; exact Or.inl rfl
    · rw [if_neg y]
      rcases i7 with q | ⟨k, hk, e, a⟩
      · exact Or.inl q
      · refine Or.inr ⟨k, hk, e, ?_⟩
        by_cases ek : k = j
        · subst ek
          rw [sI_at, if_pos ⟨rfl, rfl⟩]
          exact fun q => y ⟨e, q⟩
        · rw [sI_n _ _ _ _ ek]; exact a
  · split
    · exact h.same (sV_sI (by decide))
    · exact h
theorem Inv.fall {M : MS} (v : Int32) (h : Inv M) : Inv (f_fall M v).2 := by
  unfold f_fall
  split
  · exact h
  · rename_i z
    have hb9 := h.1.1
    unfold bnd at hb9
    obtain ⟨j, hj, rfl⟩ := isIx_t (by simpa using z) (by omega)
    rw [nx_nI (show j < 2 ^ 31 by omega)]
    refine Inv.same (sV_sI (by decide)) ?_
    obtain ⟨⟨hb, hc, hd⟩, i2, i3, i4, i5, i6, i7, i8⟩ := h
    have s1 := (fallM_1 M j 20).1
    have s2 := (fallM_1 M j 20).2
    have s3 : ∀ k, k ≠ 29 → k ≠ 32 → (fallM M j 20).2.1 k = M.2.1 k := fun k a b => fallM_k M j a b 20
    have key : ∀ n i, ((fallM M j n).2.1 29 i = M.2.1 29 i ∨ (fallM M j n).2.1 29 i = 0) ∧ ((fallM M j n).2.1 32 i = M.2.1 32 i ∨ (fallM M j n).2.1 32 i = 0) := by
      intro n
      induction n with
      | zero => exact fun i => ⟨Or.inl rfl, Or.inl rfl⟩
      | succ n ih =>
        intro i
        have e29 : (fallM M j (n + 1)).2.1 29 i = (sI (sI (fallM M j n) 29 (20 * j + n) 0) 32 (20 * j + n) 0).2.1 29 i := rfl
        have e32 : (fallM M j (n + 1)).2.1 32 i = (sI (sI (fallM M j n) 29 (20 * j + n) 0) 32 (20 * j + n) 0).2.1 32 i := rfl
        rw [e29, e32]
        simp only [sI_at]
        by_cases e : i = 20 * j + n
        · simp [e]
        · simp [e]; exact ih i
    refine ⟨⟨?_, ?_, ?_⟩, iT_c (M := M) (by rw [s1]) (by rw [s1]; exact Nat.le_refl _) (s3 21 (by decide) (by decide)) (s3 16 (by decide) (by decide)) (s3 20 (by decide) (by decide)) (s3 12 (by decide) (by decide)) (s3 15 (by decide) (by decide)) (s3 14 (by decide) (by decide)) (s3 22 (by decide) (by decide)) (s3 17 (by decide) (by decide)) i2, iF_c (M := M) (by rw [s1]; exact Nat.le_refl _) (s3 21 (by decide) (by decide)) (s3 20 (by decide) (by decide)) (by rw [s2]) (s3 16 (by decide) (by decide)) (s3 17 (by decide) (by decide)) i3, ?_, iS_c (M := M) (by rw [s1]; exact Nat.le_refl _) (by rw [s1]; exact Nat.le_refl _) (s3 9 (by decide) (by decide)) i5, iL_c (M := M) (by rw [s1]; exact Nat.le_refl _) (by rw [s1]; exact Nat.le_refl _) (by rw [s1]; exact Nat.le_refl _) (by rw [s1]) (fun _ _ => by rw [s3 12 (by decide) (by decide)]) (s3 36 (by decide) (by decide)) (s3 37 (by decide) (by decide)) (s3 38 (by decide) (by decide)) (s3 39 (by decide) (by decide)) (s3 43 (by decide) (by decide)) i6, iK_c (M := M) (by rw [s1]; exact Nat.le_refl _) (by rw [s1]) (fun _ _ => by rw [s3 5 (by decide) (by decide)]) i7, iY_c (M := M) (by rw [s1]; exact Nat.le_refl _) (by rw [s1]; exact Nat.le_refl _) (s3 54 (by decide) (by decide)) (s3 55 (by decide) (by decide)) (s3 56 (by decide) (by decide)) (by rw [s2]) i8⟩
    · unfold bnd at *; rw [s1]; exact hb
    · unfold cnts at *; rw [s1]; exact hc
    · unfold iD at *; rw [s1]; exact hd
    · intro w t hw ht
      obtain ⟨a, b, c⟩ := i4 w t hw ht
      rw [s1, s3 30 (by decide) (by decide), s3 31 (by decide) (by decide), s2]
      obtain ⟨k1, k2⟩ := key 20 (20 * w + t)
      refine ⟨fun z => ⟨?_, ?_⟩, b, ?_⟩
      · rcases k1 with q | q <;> rw [q]; exact (a z).1
      · rcases k2 with q | q <;> rw [q]; exact (a z).2
      · rcases k1 with q | q <;> rw [q]
        · exact c
        · exact Or.inl rfl
