/-! ===== the invariant ===== -/
def iD (M : MS) : Prop := 0 ≤ M.1 0 ∧ M.1 0 ≤ 100
/-- a thing's grants and queue are of workers that are there; no worker has two grants -/
def grI (M : MS) (t : Nat) : Prop := (∀ i, i < nx (M.2.1 21 t) → ∃ w, w < nx (M.1 6) ∧ M.2.1 22 (20 * t + i) = nI w) ∧ (∀ p q, p < nx (M.2.1 21 t) → q < nx (M.2.1 21 t) → M.2.1 22 (20 * t + p) = M.2.1 22 (20 * t + q) → p = q) ∧ ∀ i, i < nx (M.2.1 16 t) → ∃ w, w < nx (M.1 6) ∧ M.2.1 17 (8 * t + i) = nI w
def iT (M : MS) : Prop := ∀ t, t < nx (M.1 11) → thI M t ∧ (M.2.1 20 t = 0 ∨ M.2.1 20 t = 1) ∧ grI M t
/-- what isn't there yet is 0 -/
def iF (M : MS) : Prop := ∀ t, nx (M.1 11) ≤ t → t < 20 → M.2.1 21 t = 0 ∧ M.2.1 20 t = 0 ∧ M.2.2 18 t = 0 ∧ M.2.1 16 t = 0 ∧ ∀ q, q < 8 → M.2.1 17 (8 * t + q) = 0
def iM (M : MS) : Prop := ∀ w t, w < 20 → t < 20 → ((nx (M.1 6) ≤ w ∨ nx (M.1 11) ≤ t) → M.2.1 29 (20 * w + t) = 0 ∧ M.2.1 32 (20 * w + t) = 0) ∧ (nx (M.1 6) ≤ w → M.2.1 30 (20 * w + t) = 0 ∧ M.2.1 31 (20 * w + t) = 0 ∧ M.2.2 33 (20 * w + t) = 0 ∧ M.2.2 34 (20 * w + t) = 0) ∧ (M.2.1 29 (20 * w + t) = 0 ∨ M.2.1 29 (20 * w + t) = 1)
def iS (M : MS) : Prop := ∀ w, w < 20 → (∃ s, s ≤ nx (M.1 35) ∧ M.2.1 9 w = nI s) ∧ (nx (M.1 6) ≤ w → M.2.1 9 w = 0)
/-- a letter of these -/
def ltI (M : MS) (k w b t mk : Int32) : Prop := ∃ w' t' b' : Nat, w' < nx (M.1 6) ∧ t' < nx (M.1 11) ∧ b' < nx (M.1 2) ∧ w = nI w' ∧ t = nI t' ∧ b = nI b' ∧ (k < 4 → ¬ k = 0 → ¬ k = 1 → ¬ k = 2 → M.2.1 12 t' = 3) ∧ (k = 4 ∨ k = 5 → ¬ mk = 0) ∧ (k < 4 → ¬ k = 2 → ¬ mk = 0)
def iL (M : MS) : Prop := ∀ j, j < nx (M.1 35) → ltI M (M.2.1 36 j) (M.2.1 37 j) (M.2.1 38 j) (M.2.1 39 j) (M.2.1 43 j)
def iK (M : MS) : Prop := M.1 27 = -1 ∨ ∃ k, k < nx (M.1 2) ∧ M.1 27 = nI k ∧ ¬ M.2.1 5 k = 0
def iY (M : MS) : Prop := ∀ y, y < 6 → t54 M y ∧ (M.2.1 54 y = 1 → nx (M.2.1 55 y) < nx (M.1 11) ∧ ∃ t, t < 20 ∧ M.2.1 55 y = nI t) ∧ (M.2.1 54 y = 2 → nx (M.2.1 55 y) < nx (M.1 35) ∧ ∃ t, t < 400 ∧ M.2.1 55 y = nI t) ∧ M.2.1 56 y = nI (nx (M.2.1 56 y)) ∧ nx (M.2.1 56 y) ≤ 20 ∧ (M.2.1 54 y = 4 → ∀ q, q < nx (M.2.1 56 y) → M.2.2 57 (20 * y + q) = 0 ∨ M.2.2 57 (20 * y + q) = 1)
def Inv (M : MS) : Prop := (bnd M ∧ cnts M ∧ iD M) ∧ iT M ∧ iF M ∧ iM M ∧ iS M ∧ iL M ∧ iK M ∧ iY M
/-- the counts and the drift are the same -/
def sC (M M' : MS) : Prop := M'.1 0 = M.1 0 ∧ M'.1 2 = M.1 2 ∧ M'.1 6 = M.1 6 ∧ M'.1 11 = M.1 11 ∧ M'.1 35 = M.1 35 ∧ M'.1 46 = M.1 46
theorem iC_c {M M' : MS} (h : sC M M') (hi : bnd M ∧ cnts M ∧ iD M) : bnd M' ∧ cnts M' ∧ iD M' := by
  obtain ⟨h0, h2, h6, h11, h35, h46⟩ := h
  unfold bnd cnts iD at *
  rw [h0, h2, h6, h11, h35, h46]; exact hi
theorem thI_c {M M' : MS} {t : Nat} (h21 : M'.2.1 21 t = M.2.1 21 t) (h16 : M'.2.1 16 t = M.2.1 16 t) (h20 : M'.2.1 20 t = M.2.1 20 t) (h12 : M'.2.1 12 t = M.2.1 12 t) (h15 : M'.2.1 15 t = M.2.1 15 t) (h14 : M'.2.1 14 t = M.2.1 14 t) (h : thI M t) : thI M' t := by unfold thI at *; rw [h21, h16, h20, h12, h15, h14]; exact h
theorem grI_c {M M' : MS} {t : Nat} (h6 : nx (M.1 6) ≤ nx (M'.1 6)) (h21 : M'.2.1 21 t = M.2.1 21 t) (h16 : M'.2.1 16 t = M.2.1 16 t) (h22 : ∀ i, i < nx (M.2.1 21 t) → M'.2.1 22 (20 * t + i) = M.2.1 22 (20 * t + i)) (h17 : ∀ i, i < nx (M.2.1 16 t) → M'.2.1 17 (8 * t + i) = M.2.1 17 (8 * t + i)) (h : grI M t) : grI M' t := by
  obtain ⟨a, b, c⟩ := h
  unfold grI
  rw [h21, h16]
  refine ⟨fun i hi => ?_, fun p q hp hq e => ?_, fun i hi => ?_⟩
  · obtain ⟨w, hw, e⟩ := a i hi; exact ⟨w, by omega, by rw [h22 i hi]; exact e⟩
  · rw [h22 p hp, h22 q hq] at e; exact b p q hp hq e
  · obtain ⟨w, hw, e⟩ := c i hi; exact ⟨w, by omega, by rw [h17 i hi]; exact e⟩
theorem iT_c {M M' : MS} (h11 : M'.1 11 = M.1 11) (h6 : nx (M.1 6) ≤ nx (M'.1 6)) (h21 : M'.2.1 21 = M.2.1 21) (h16 : M'.2.1 16 = M.2.1 16) (h20 : M'.2.1 20 = M.2.1 20) (h12 : M'.2.1 12 = M.2.1 12) (h15 : M'.2.1 15 = M.2.1 15) (h14 : M'.2.1 14 = M.2.1 14) (h22 : M'.2.1 22 = M.2.1 22) (h17 : M'.2.1 17 = M.2.1 17) (h : iT M) : iT M' := fun t ht => by
  rw [h11] at ht
  obtain ⟨a, b, c⟩ := h t ht
  exact ⟨thI_c (by rw [h21]) (by rw [h16]) (by rw [h20]) (by rw [h12]) (by rw [h15]) (by rw [h14]) a, by rw [h20]; exact b, grI_c h6 (by rw [h21]) (by rw [h16]) (fun _ _ => by rw [h22]) (fun _ _ => by rw [h17]) c⟩
theorem iF_c {M M' : MS} (h11 : nx (M.1 11) ≤ nx (M'.1 11)) (h21 : M'.2.1 21 = M.2.1 21) (h20 : M'.2.1 20 = M.2.1 20) (h18 : M'.2.2 18 = M.2.2 18) (h16 : M'.2.1 16 = M.2.1 16) (h17 : M'.2.1 17 = M.2.1 17) (h : iF M) : iF M' := fun t h1 h2 => by rw [h21, h20, h18, h16, h17]; exact h t (by omega) h2
theorem iM_c {M M' : MS} (h6 : nx (M.1 6) ≤ nx (M'.1 6)) (h11 : nx (M.1 11) ≤ nx (M'.1 11)) (h29 : M'.2.1 29 = M.2.1 29) (h30 : M'.2.1 30 = M.2.1 30) (h31 : M'.2.1 31 = M.2.1 31) (h32 : M'.2.1 32 = M.2.1 32) (h33 : M'.2.2 33 = M.2.2 33) (h34 : M'.2.2 34 = M.2.2 34) (h : iM M) : iM M' := fun w t hw ht => by
  rw [h29, h30, h31, h32, h33, h34]
  obtain ⟨a, b, c⟩ := h w t hw ht
  exact ⟨fun z => a (by omega), fun z => b (by omega), c⟩
theorem iS_c {M M' : MS} (h6 : nx (M.1 6) ≤ nx (M'.1 6)) (h35 : nx (M.1 35) ≤ nx (M'.1 35)) (h9 : M'.2.1 9 = M.2.1 9) (h : iS M) : iS M' := fun w hw => by
  rw [h9]
  obtain ⟨⟨s, hs, e⟩, b⟩ := h w hw
  exact ⟨⟨s, by omega, e⟩, fun z => b (by omega)⟩
theorem ltI_c {M M' : MS} {k w b t mk : Int32} (h6 : nx (M.1 6) ≤ nx (M'.1 6)) (h11 : nx (M.1 11) ≤ nx (M'.1 11)) (h2 : nx (M.1 2) ≤ nx (M'.1 2)) (h12 : ∀ t, t < nx (M.1 11) → M'.2.1 12 t = M.2.1 12 t) (h : ltI M k w b t mk) : ltI M' k w b t mk := by
  obtain ⟨w', t', b', a1, a2, a3, a4, a5, a6, a7, a8, a9⟩ := h
  exact ⟨w', t', b', by omega, by omega, by omega, a4, a5, a6, fun z1 z2 z3 z4 => by rw [h12 t' a2]; exact a7 z1 z2 z3 z4, a8, a9⟩
theorem iL_c {M M' : MS} (h6 : nx (M.1 6) ≤ nx (M'.1 6)) (h11 : nx (M.1 11) ≤ nx (M'.1 11)) (h2 : nx (M.1 2) ≤ nx (M'.1 2)) (h35 : M'.1 35 = M.1 35) (h12 : ∀ t, t < nx (M.1 11) → M'.2.1 12 t = M.2.1 12 t) (h36 : M'.2.1 36 = M.2.1 36) (h37 : M'.2.1 37 = M.2.1 37) (h38 : M'.2.1 38 = M.2.1 38) (h39 : M'.2.1 39 = M.2.1 39) (h43 : M'.2.1 43 = M.2.1 43) (h : iL M) : iL M' := fun j hj => by
  rw [h35] at hj
  rw [h36, h37, h38, h39, h43]
  exact ltI_c h6 h11 h2 h12 (h j hj)
theorem iK_c {M M' : MS} (h2 : nx (M.1 2) ≤ nx (M'.1 2)) (h27 : M'.1 27 = M.1 27) (h5 : ∀ k, k < nx (M.1 2) → M'.2.1 5 k = M.2.1 5 k) (h : iK M) : iK M' := by
  unfold iK at *
  rw [h27]
  rcases h with z | ⟨k, hk, e, a⟩
  · exact Or.inl z
  · exact Or.inr ⟨k, by omega, e, by rw [h5 k hk]; exact a⟩
theorem iY_c {M M' : MS} (h11 : nx (M.1 11) ≤ nx (M'.1 11)) (h35 : nx (M.1 35) ≤ nx (M'.1 35)) (h54 : M'.2.1 54 = M.2.1 54) (h55 : M'.2.1 55 = M.2.1 55) (h56 : M'.2.1 56 = M.2.1 56) (h57 : M'.2.2 57 = M.2.2 57) (h : iY M) : iY M' := fun y hy => by
  unfold t54
  rw [h54, h55, h56, h57]
  obtain ⟨a, b, c, d⟩ := h y hy
  exact ⟨a, fun z => ⟨by have := (b z).1; omega, (b z).2⟩, fun z => ⟨by have := (c z).1; omega, (c z).2⟩, d⟩
theorem Inv.tidy {M : MS} (h : Inv M) : tidy M := by
  obtain ⟨_, hT, _, _, _, _, _, hY⟩ := h
  exact ⟨fun t ht => (hT t ht).1.2.1, fun y hy => ⟨fun z => ((hY y hy).2.1 z).1, fun z => ((hY y hy).2.2.1 z).1⟩⟩
theorem Inv.d0 {M : MS} (h : Inv M) : 0 < 1000 - M.1 0 ∧ ¬ 1000 - M.1 0 = 0 := by
  obtain ⟨⟨_, _, hd⟩, _⟩ := h
  obtain ⟨j, hj, e⟩ := nI_of2 (M := 100) (n := 100) rfl (Int32.not_lt.mpr hd.1) hd.2
  rw [e]
  have key : ∀ j, j < 101 → 0 < 1000 - nI j ∧ ¬ 1000 - nI j = 0 := by decide +kernel
  exact key j (by omega)
/-- nothing that the invariant speaks of has changed -/
def sV (M M' : MS) : Prop := sC M M' ∧ M'.1 27 = M.1 27 ∧ (∀ f, f ∈ ([5, 9, 12, 14, 15, 16, 17, 20, 21, 22, 29, 30, 31, 32, 36, 37, 38, 39, 43, 54, 55, 56] : List Nat) → M'.2.1 f = M.2.1 f) ∧ ∀ f, f ∈ ([18, 33, 34, 57] : List Nat) → M'.2.2 f = M.2.2 f
theorem Inv.same {M M' : MS} (h : sV M M') (hi : Inv M) : Inv M' := by
  obtain ⟨hc, h27, a, b⟩ := h
  obtain ⟨i1, i2, i3, i4, i5, i6, i7, i8⟩ := hi
  have e2 : nx (M.1 2) ≤ nx (M'.1 2) := by rw [hc.2.1]; exact Nat.le_refl _
  have e6 : nx (M.1 6) ≤ nx (M'.1 6) := by rw [hc.2.2.1]; exact Nat.le_refl _
  have e11 : nx (M.1 11) ≤ nx (M'.1 11) := by rw [hc.2.2.2.1]; exact Nat.le_refl _
  have e35 : nx (M.1 35) ≤ nx (M'.1 35) := by rw [hc.2.2.2.2.1]; exact Nat.le_refl _
  exact ⟨iC_c hc i1, iT_c hc.2.2.2.1 e6 (a 21 (by decide)) (a 16 (by decide)) (a 20 (by decide)) (a 12 (by decide)) (a 15 (by decide)) (a 14 (by decide)) (a 22 (by decide)) (a 17 (by decide)) i2, iF_c e11 (a 21 (by decide)) (a 20 (by decide)) (b 18 (by decide)) (a 16 (by decide)) (a 17 (by decide)) i3, iM_c e6 e11 (a 29 (by decide)) (a 30 (by decide)) (a 31 (by decide)) (a 32 (by decide)) (b 33 (by decide)) (b 34 (by decide)) i4, iS_c e6 e35 (a 9 (by decide)) i5, iL_c e6 e11 e2 hc.2.2.2.2.1 (fun _ _ => by rw [a 12 (by decide)]) (a 36 (by decide)) (a 37 (by decide)) (a 38 (by decide)) (a 39 (by decide)) (a 43 (by decide)) i6, iK_c e2 h27 (fun _ _ => by rw [a 5 (by decide)]) i7, iY_c e11 e35 (a 54 (by decide)) (a 55 (by decide)) (a 56 (by decide)) (b 57 (by decide)) i8⟩
theorem sV_sI {M : MS} {k j : Nat} {v : Int32} (h : k ∉ ([5, 9, 12, 14, 15, 16, 17, 20, 21, 22, 29, 30, 31, 32, 36, 37, 38, 39, 43, 54, 55, 56] : List Nat)) : sV M (sI M k j v) := ⟨⟨rfl, rfl, rfl, rfl, rfl, rfl⟩, rfl, fun f hf => sI_k _ _ _ (fun z => h (z ▸ hf)), fun _ _ => rfl⟩
theorem sV_sL {M : MS} {k j : Nat} {v : Int64} (h : k ∉ ([18, 33, 34, 57] : List Nat)) : sV M (sL M k j v) := ⟨⟨rfl, rfl, rfl, rfl, rfl, rfl⟩, rfl, fun _ _ => rfl, fun f hf => sL_k _ _ _ (fun z => h (z ▸ hf))⟩
theorem sV_sS {M : MS} {k : Nat} {v : Int32} (h : k ∉ ([0, 2, 6, 11, 35, 46, 27] : List Nat)) : sV M (sS M k v) := by
  have e : ∀ f, f ∈ ([0, 2, 6, 11, 35, 46, 27] : List Nat) → (sS M k v).1 f = M.1 f := fun f hf => by
    have hn : ¬ f = k := fun z => h (z ▸ hf)
    rw [sS_at, if_neg hn]
  exact ⟨⟨e 0 (by decide), e 2 (by decide), e 6 (by decide), e 11 (by decide), e 35 (by decide), e 46 (by decide)⟩, e 27 (by decide), fun _ _ => rfl, fun _ _ => rfl⟩
