/-! ===== the invariant is kept: looks ===== -/
theorem uq17 (M : MS) (t a : Nat) : ∀ n i, (uqM M t a n).2.1 17 i = if 8 * t + a ≤ i ∧ i < 8 * t + a + n then M.2.1 17 (i + 1) else M.2.1 17 i
  | 0, i => by rw [if_neg (by omega)]; rfl
  | n + 1, i => by
    show (sI (uqM M t a n) 17 (8 * t + (a + n)) ((uqM M t a n).2.1 17 (8 * t + (a + n) + 1))).2.1 17 i = _
    rw [sI_at]
    by_cases e : i = 8 * t + (a + n)
    · rw [if_pos ⟨rfl, e⟩, uq17 M t a n (8 * t + (a + n) + 1), if_neg (by omega), if_pos (by omega), e]
    · rw [if_neg (fun z => e z.2), uq17 M t a n i]
      by_cases c : 8 * t + a ≤ i ∧ i < 8 * t + a + n
      · rw [if_pos c, if_pos (by omega)]
      · rw [if_neg c, if_neg (by omega)]
theorem unq_17 (M : MS) (t a q : Nat) : (unqM M t a q).2.1 17 = (uqM M t a (q - 1 - a)).2.1 17 := by
  unfold unqM
  by_cases e : a = 0
  · rw [if_pos e]; rfl
  · rw [if_neg e]
theorem unq_16f (M : MS) (t a q : Nat) : (unqM M t a q).2.1 16 = fu (M.2.1 16) t (M.2.1 16 t - 1) := by
  rw [← uqM_16 M t a (q - 1 - a)]
  unfold unqM
  by_cases e : a = 0
  · rw [if_pos e]; rfl
  · rw [if_neg e]
theorem unq_20 (M : MS) (t a q : Nat) : (∀ i, i ≠ t → (unqM M t a q).2.1 20 i = M.2.1 20 i) ∧ ((unqM M t a q).2.1 20 t = 0 ∨ (0 < a ∧ (unqM M t a q).2.1 20 t = M.2.1 20 t)) := by
  have hu : (uqM M t a (q - 1 - a)).2.1 20 = M.2.1 20 := (uqM_cnt M t a (q - 1 - a)).2.2 20 (by decide) (by decide)
  unfold unqM
  by_cases e : a = 0
  · rw [if_pos e]
    exact ⟨fun i hi => by rw [sI_n _ _ _ _ hi, hu], Or.inl (by rw [sI_at, if_pos ⟨rfl, rfl⟩])⟩
  · rw [if_neg e, hu]
    exact ⟨fun _ _ => rfl, Or.inr ⟨by omega, rfl⟩⟩
theorem inv_unq {M : MS} {t a : Nat} (h : Inv M) (ht : t < nx (M.1 11)) (ha : a < nx (M.2.1 16 t)) : Inv (unqM M t a (nx (M.2.1 16 t))) := by
  obtain ⟨x, b, g⟩ := h.2.1 t ht
  obtain ⟨s1, s2, s3⟩ := unqM_same M t a (nx (M.2.1 16 t))
  have v17 : ∀ i, (unqM M t a (nx (M.2.1 16 t))).2.1 17 i = _ := fun i => by rw [unq_17, uq17]
  have v16 := unq_16f M t a (nx (M.2.1 16 t))
  obtain ⟨v20, w20⟩ := unq_20 M t a (nx (M.2.1 16 t))
  obtain ⟨x1, x2, x3, x4, x5, x6, x7, x8⟩ := x
  have e16 : (unqM M t a (nx (M.2.1 16 t))).2.1 16 t = nI (nx (M.2.1 16 t) - 1) := by
    have e3 : M.2.1 16 t - 1 = nI (nx (M.2.1 16 t) - 1) := by rw [← subE (by omega), ← x3]
    rw [v16, fu_s]; exact e3
  have n16 : nx ((unqM M t a (nx (M.2.1 16 t))).2.1 16 t) = nx (M.2.1 16 t) - 1 := by rw [e16]; exact nx_nI (by omega)
  have h4 : M.2.1 12 t = 4 := by
    by_cases z : M.2.1 12 t = 4
    · exact z
    · have := (x6 z).1
      rw [this] at ha
      have n0 : nx (0 : Int32) = 0 := by decide
      omega
  generalize hA : unqM M t a (nx (M.2.1 16 t)) = A at *
  refine inv_th h ht ⟨by rw [s1], by rw [s1], by rw [s1], by rw [s1], by rw [s1], by rw [s1]⟩ (by rw [s1]) (fun f hf => ?_) (fun f i hf hi => ?_) (fun i _ => by rw [s3 22 (by decide) (by decide) (by decide)]) (fun i hi => ?_) (fun i _ => by rw [s2]) (fun f _ => by rw [s2]) ?_ ?_ ?_
  · have := (by decide : ∀ f ∈ ([5, 9, 12, 14, 29, 30, 31, 32, 36, 37, 38, 39, 43, 54, 55, 56] : List Nat), f ≠ 16 ∧ f ≠ 17 ∧ f ≠ 20) f hf
    exact s3 f this.1 this.2.1 this.2.2
  · by_cases e : f = 16
    · subst e; rw [v16, fu_n _ _ hi]
    · by_cases e2 : f = 20
      · subst e2; exact v20 i hi
      · have := (by decide : ∀ f ∈ ([15, 16, 20, 21] : List Nat), f ≠ 17) f hf
        rw [s3 f e this e2]
  · rw [v17 i, if_neg (by omega)]
  · unfold thI
    rw [n16, e16, s3 21 (by decide) (by decide) (by decide), s3 12 (by decide) (by decide) (by decide), s3 15 (by decide) (by decide) (by decide), s3 14 (by decide) (by decide) (by decide)]
    refine ⟨x1, x2, rfl, by omega, fun z => ?_, fun z => absurd h4 z, x7, x8⟩
    rcases w20 with q | ⟨q, _⟩
    · exact absurd q z
    · omega
  · rcases w20 with q | ⟨_, q⟩
    · exact Or.inl q
    · rw [q]; exact b
  · obtain ⟨g1, g2, g3⟩ := g
    unfold grI
    rw [n16, s1, s3 21 (by decide) (by decide) (by decide), s3 22 (by decide) (by decide) (by decide)]
    refine ⟨g1, g2, fun i hi => ?_⟩
    rw [v17]
    by_cases c : 8 * t + a ≤ 8 * t + i ∧ 8 * t + i < 8 * t + a + (nx (M.2.1 16 t) - 1 - a)
    · rw [if_pos c]; exact g3 (i + 1) (by omega)
    · rw [if_neg c]; exact g3 i (by omega)
theorem inv_15 {M : MS} {t : Nat} (v : Int32) (h : Inv M) (ht : t < nx (M.1 11)) (hv : ¬ M.2.1 12 t = 3 → v = -1) : Inv (sI M 15 t v) := by
  obtain ⟨x, b, g⟩ := h.2.1 t ht
  refine inv_th h ht ⟨rfl, rfl, rfl, rfl, rfl, rfl⟩ rfl (fun f hf => sI_k _ _ _ ((by decide : ∀ f ∈ ([5, 9, 12, 14, 29, 30, 31, 32, 36, 37, 38, 39, 43, 54, 55, 56] : List Nat), f ≠ 15) f hf)) (fun f i _ hi => sI_n _ _ _ _ hi) (fun _ _ => rfl) (fun _ _ => rfl) (fun _ _ => rfl) (fun _ _ => rfl) ?_ b g
  obtain ⟨x1, x2, x3, x4, x5, x6, x7, x8⟩ := x
  exact ⟨x1, x2, x3, x4, x5, x6, fun z => by rw [sI_at, if_pos ⟨rfl, rfl⟩]; exact hv z, x8⟩
theorem inv_lkR {M : MS} {t : Nat} (h : Inv M) (ht : t < nx (M.1 11)) : Inv (lkR M t) := by
  unfold lkR
  by_cases z : M.2.1 15 t = -1
  · rw [if_pos z]; exact h
  · rw [if_neg z]
    by_cases y : plc (gof M t (M.2.1 15 t) (nx (M.2.1 21 t))) = -1
    · rw [if_pos y]; exact inv_15 _ h ht (fun _ => rfl)
    · rw [if_neg y]; exact h
theorem inv_lkQ {M : MS} {t : Nat} (c : Int64) (h : Inv M) (ht : t < nx (M.1 11)) : Inv (lkQ M t c) := by
  unfold lkQ
  by_cases z : M.2.1 20 t = 0
  · rw [if_pos z]; exact h
  · rw [if_neg z]
    by_cases y : c < M.2.2 19 t
    · rw [if_pos y]; exact h
    · rw [if_neg y]; exact inv_unq h ht ((h.2.1 t ht).1.2.2.2.2.1 z)
theorem inv_20 {M : MS} {t : Nat} (h : Inv M) (ht : t < nx (M.1 11)) (h0 : 0 < nx (M.2.1 16 t)) : Inv (sI M 20 t 1) := by
  obtain ⟨x, b, g⟩ := h.2.1 t ht
  refine inv_th h ht ⟨rfl, rfl, rfl, rfl, rfl, rfl⟩ rfl (fun f hf => sI_k _ _ _ ((by decide : ∀ f ∈ ([5, 9, 12, 14, 29, 30, 31, 32, 36, 37, 38, 39, 43, 54, 55, 56] : List Nat), f ≠ 20) f hf)) (fun f i _ hi => sI_n _ _ _ _ hi) (fun _ _ => rfl) (fun _ _ => rfl) (fun _ _ => rfl) (fun _ _ => rfl) ?_ (Or.inr (by rw [sI_at, if_pos ⟨rfl, rfl⟩])) g
  obtain ⟨x1, x2, x3, x4, x5, x6, x7, x8⟩ := x
  refine ⟨x1, x2, x3, x4, fun _ => h0, fun z => ?_, x7, x8⟩
  have := (x6 z).1
  rw [this] at h0
  have n0 : nx (0 : Int32) = 0 := by decide
  omega
theorem inv_snd6 {B : MS} {t w k : Nat} (hB : Inv B) (hL4 : nx (B.1 35) < 400) (ht : t < nx (B.1 11)) (hw : w < nx (B.1 6)) (hk : k < nx (B.1 2)) (ew : B.2.1 17 (8 * t) = nI w) (ek : B.1 27 = nI k) : Inv (sndM B (nx (B.1 35)) 6 (B.2.1 17 (8 * t)) (B.1 27) (nI t)) := by
  refine inv_snt hB hL4 (snd_snt hB.1.2.1.2.2.2.1 hL4) ?_
  have e36 : (sndM B (nx (B.1 35)) 6 (B.2.1 17 (8 * t)) (B.1 27) (nI t)).2.1 36 (nx (B.1 35)) = 6 := by simp [sndM, sI_at, sL_1, sS_1]
  have e37 : (sndM B (nx (B.1 35)) 6 (B.2.1 17 (8 * t)) (B.1 27) (nI t)).2.1 37 (nx (B.1 35)) = nI w := by rw [← ew]; simp [sndM, sI_at, sL_1, sS_1]
  have e38 : (sndM B (nx (B.1 35)) 6 (B.2.1 17 (8 * t)) (B.1 27) (nI t)).2.1 38 (nx (B.1 35)) = nI k := by rw [← ek]; simp [sndM, sI_at, sL_1, sS_1]
  have e39 : (sndM B (nx (B.1 35)) 6 (B.2.1 17 (8 * t)) (B.1 27) (nI t)).2.1 39 (nx (B.1 35)) = nI t := by simp [sndM, sI_at, sL_1, sS_1]
  rw [e36, e37, e38, e39]
  exact ⟨w, t, k, hw, ht, hk, rfl, rfl, rfl, fun q => absurd q (by decide), fun q => absurd q (by decide), fun q => absurd q (by decide)⟩
theorem inv_lkC {M : MS} {t : Nat} (c : Int64) (h : Inv M) (ht : t < nx (M.1 11)) (hL4 : nx (M.1 35) < 400) (hl : ¬ M.1 27 = -1) : Inv (lkC M t c) := by
  unfold lkC
  by_cases d1 : M.2.1 16 t ≤ 0
  · rw [if_pos d1]; exact h
  · rw [if_neg d1]
    by_cases d2 : M.2.1 21 t = 0
    · rw [if_pos d2]
      by_cases d3 : M.2.1 20 t = 0
      · rw [if_pos d3]
        obtain ⟨x, b, g⟩ := h.2.1 t ht
        have h0 : 0 < nx (M.2.1 16 t) := by
          rcases Nat.eq_zero_or_pos (nx (M.2.1 16 t)) with z | z
          · exact absurd (by rw [x.2.2.1, z]; decide) d1
          · exact z
        have hA := inv_20 h ht h0
        obtain ⟨w, hw, ew⟩ := g.2.2 0 h0
        obtain ⟨k, hk, ek, _⟩ := h.2.2.2.2.2.2.1.resolve_left hl
        have hB : Inv (sL (sI M 20 t 1) 19 t (c + (lng (sI M 20 t 1) t).toInt64)) := hA.same (sV_sL (by decide))
        exact inv_snd6 hB hL4 ht hw hk ew ek
      · rw [if_neg d3]; exact h
    · rw [if_neg d2]; exact h
theorem inv_looks {M : MS} {t : Nat} (h : Inv M) (ht : t < nx (M.1 11)) (hL4 : nx (M.1 35) < 400) (hl : ¬ M.1 27 = -1) : Inv (looksM M t) := by
  unfold looksM
  simp only []
  generalize kClk M (nx (M.1 27)) = c
  have h1 := inv_lkM c h ht
  have s1 := (lkM_same t c (nx (M.2.1 21 t)) 0 M).1
  generalize lkM M t c 0 (nx (M.2.1 21 t)) = A at h1 s1
  have h2 := inv_lkR h1 (by rw [s1]; exact ht)
  have s2 := lkR_1 A t
  generalize lkR A t = B at h2 s2
  have h3 := inv_lkQ c h2 (by rw [s2, s1]; exact ht)
  have s3 := lkQ_1 B t c
  generalize lkQ B t c = C at h3 s3
  exact inv_lkC c h3 (by rw [s3, s2, s1]; exact ht) (by rw [s3, s2, s1]; exact hL4) (by rw [s3, s2, s1]; exact hl)
theorem Inv.look {M : MS} (v : Int32) (h : Inv M) : Inv (f_look M v).2 := by
  unfold f_look
  by_cases z : isIx v (nx (M.1 11)) = false
  · rw [if_pos z]; exact h
  · rw [if_neg z]
    by_cases z2 : M.1 27 = -1
    · rw [if_pos z2]; exact h
    · rw [if_neg z2]
      refine ite_inv h ?_
      by_cases y : M.1 35 = 400
      · rw [if_pos y]; exact h
      · rw [if_neg y]
        have hbd := h.1.1
        unfold bnd at hbd
        obtain ⟨j, hj, rfl⟩ := isIx_t (by simpa using z) (by omega)
        rw [nx_nI (show j < 2 ^ 31 by omega)]
        exact inv_looks h hj (eq400 h.1.1.2.2.2.1 (by rw [← h.1.2.1.2.2.2.1]; exact y)) z2
theorem inv_goM {M : MS} {t a : Nat} (h : Inv M) (ht : t < nx (M.1 11)) (ha : a < nx (M.2.1 21 t)) : Inv (goM M t a (nx (M.2.1 21 t) - 1 - a)) := by
  obtain ⟨x, b, g⟩ := h.2.1 t ht
  have x2 := x.2.1
  have l1 := goM_sT M t a (nx (M.2.1 21 t) - 1 - a) (by omega)
  have l2 := gls_go (M := M) (t := t) x.1 x2 ha
  have l3 := goM_n (M := M) (t := t) (a := a) (nx (M.2.1 21 t) - 1 - a) x.1 (by omega)
  generalize goM M t a (nx (M.2.1 21 t) - 1 - a) = A at l1 l2 l3
  obtain ⟨s1, s2, s3, s4⟩ := l1
  have hk : ∀ f, f ≠ 21 → f ∉ ([22, 23, 24] : List Nat) → A.2.1 f = M.2.1 f := fun f x y => funext (fun i => s2 f i x (Or.inl y))
  refine inv_th h ht ⟨by rw [s1], by rw [s1], by rw [s1], by rw [s1], by rw [s1], by rw [s1]⟩ (by rw [s1]) (fun f hf => ?_) (fun f i hf hi => ?_) (fun i hi => s2 22 i (by decide) (Or.inr hi)) (fun i _ => by rw [hk 17 (by decide) (by decide)]) (fun i _ => s4 18 i (Or.inl (by decide))) (fun f hf => funext (fun i => s4 f i (Or.inl ((by decide : ∀ f ∈ ([33, 34, 57] : List Nat), f ∉ ([25, 26] : List Nat)) f hf)))) (thI_of x l3 (by omega) (by rw [hk 16 (by decide) (by decide)]) (by rw [hk 20 (by decide) (by decide)]) (by rw [hk 12 (by decide) (by decide)]) (by rw [hk 15 (by decide) (by decide)]) (by rw [hk 14 (by decide) (by decide)])) (by rw [hk 20 (by decide) (by decide)]; exact b) ?_
  · have := (by decide : ∀ f ∈ ([5, 9, 12, 14, 29, 30, 31, 32, 36, 37, 38, 39, 43, 54, 55, 56] : List Nat), f ≠ 21 ∧ f ∉ ([22, 23, 24] : List Nat)) f hf
    exact hk f this.1 this.2
  · by_cases e : f = 21
    · subst e; exact s3 i hi
    · have := (by decide : ∀ f ∈ ([15, 16, 20, 21] : List Nat), f ∉ ([22, 23, 24] : List Nat)) f hf
      rw [hk f e this]
  · have hg : grL (nx (M.1 6)) (gls A t) := by
      rw [l2]
      exact (grL_of g).sub (List.eraseIdx_sublist _ _)
    obtain ⟨g1, g2⟩ := grL_to hg
    refine ⟨by rw [s1]; exact g1, g2, ?_⟩
    rw [hk 16 (by decide) (by decide), hk 17 (by decide) (by decide), s1]
    exact g.2.2
