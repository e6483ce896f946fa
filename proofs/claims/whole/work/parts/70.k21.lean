/-! ===== the class: grants go ===== -/
section RA21
variable {G : WG} {hp h h' : Hp} {A A1 A2 : AD} {M M' M1 : MS}
theorem gls_eq {t : Nat} (h : gls M' t = gls M t) : nx (M'.2.1 21 t) = nx (M.2.1 21 t) ∧ ∀ q, q < nx (M.2.1 21 t) → ent M' t q = ent M t q := by
  have hl : nx (M'.2.1 21 t) = nx (M.2.1 21 t) := by rw [← gls_len, ← gls_len, h]
  refine ⟨hl, fun q hq => ?_⟩
  have e1 := gls_get (M := M') (t := t) (i := q) (by rw [hl]; exact hq)
  rw [h, gls_get hq] at e1
  exact (Option.some.inj e1).symm
theorem RH.eqG (hR : RH G hp A M h) {t : Nat} (hs : sameT M' M t) (hn : M'.2.1 21 t = M.2.1 21 t) (he : ∀ q, q < nx (M.2.1 21 t) → ent M' t q = ent M t q) : RH G hp A M' h := by
  obtain ⟨c1, c2, c21, c3⟩ := hs
  have h21 : ∀ i, M'.2.1 21 i = M.2.1 21 i := fun i => by
    by_cases e : i = t
    · subst e; exact hn
    · exact c21 i e
  have hlen : ∀ q, len M' q = len M q := fun q => by
    match q with
    | 0 | 1 | 2 | 3 => unfold len; rw [c1]
    | t' + 4 => show nx (M'.2.1 21 t') = nx (M.2.1 21 t'); rw [h21]
  have hvv : ∀ k' i', vld A M' k' i' → vld A M k' i' := by
    intro k' i' hv'
    have hk := vld_lt hv'
    rcases (by omega : k' = 0 ∨ k' = 1 ∨ k' = 2 ∨ k' = 3 ∨ k' = 4 ∨ k' = 5 ∨ k' = 6 ∨ k' = 7 ∨ k' = 8 ∨ k' = 9 ∨ k' = 10 ∨ k' = 11 ∨ k' = 12 ∨ k' = 13 ∨ k' = 14 ∨ k' = 15 ∨ k' = 16 ∨ k' = 17) with rfl | rfl | rfl | rfl | rfl | rfl | rfl | rfl | rfl | rfl | rfl | rfl | rfl | rfl | rfl | rfl | rfl | rfl
    · unfold vld at hv' ⊢; simpa only [c1] using hv'
    · unfold vld at hv' ⊢; simpa only [c1] using hv'
    · unfold vld at hv' ⊢; simpa only [c1] using hv'
    · unfold vld at hv' ⊢; simpa only [c1] using hv'
    · unfold vld at hv' ⊢; simpa only [c1] using hv'
    · unfold vld at hv' ⊢; simpa only [c1] using hv'
    · unfold vld at hv' ⊢; simpa only [c1] using hv'
    · unfold vld at hv' ⊢; simpa only [c1] using hv'
    · unfold vld at hv' ⊢; simpa only [c1, h21] using hv'
    · unfold vld at hv' ⊢; simpa only [c1] using hv'
    · unfold vld at hv' ⊢; simpa only [c1, c2 12 _ (by decide) (Or.inl (by decide : (12 : Nat) ∉ ([22, 23, 24] : List Nat)))] using hv'
    · unfold vld at hv' ⊢; simpa only [c1] using hv'
    · unfold vld at hv' ⊢; simpa only [c1] using hv'
    · unfold vld at hv' ⊢; simpa only [c1] using hv'
    · unfold vld at hv' ⊢; simpa only [c1] using hv'
    · unfold vld at hv' ⊢; simpa only [c1] using hv'
    · unfold vld at hv' ⊢; simpa only [c1] using hv'
    · unfold vld at hv' ⊢; simpa only [c1, c2 54 _ (by decide) (Or.inl (by decide : (54 : Nat) ∉ ([22, 23, 24] : List Nat)))] using hv'
  have hcc : ∀ k' i', vld A M k' i' → ¬ (k' = 0 ∧ i' = 0) → cc G A M' k' i' = cc G A M k' i' := by
    intro k' i' hv' hne
    have hk := vld_lt hv'
    rcases (by omega : k' = 0 ∨ k' = 1 ∨ k' = 2 ∨ k' = 3 ∨ k' = 4 ∨ k' = 5 ∨ k' = 6 ∨ k' = 7 ∨ k' = 8 ∨ k' = 9 ∨ k' = 10 ∨ k' = 11 ∨ k' = 12 ∨ k' = 13 ∨ k' = 14 ∨ k' = 15 ∨ k' = 16 ∨ k' = 17) with rfl | rfl | rfl | rfl | rfl | rfl | rfl | rfl | rfl | rfl | rfl | rfl | rfl | rfl | rfl | rfl | rfl | rfl
    · exact absurd ⟨rfl, hv'⟩ hne
    · show cLs G A M' i' = cLs G A M i'; simp only [cLs, c1, hlen]
    · show cDt G A M' i' = cDt G A M i'; simp only [cDt, c1, hlen]
    · show cKp G A M' i' = cKp G A M i'; simp only [cKp, c1, c2 3 i' (by decide) (Or.inl (by decide)), c2 4 i' (by decide) (Or.inl (by decide)), c2 5 i' (by decide) (Or.inl (by decide))]
    · show cWk G A M' i' = cWk G A M i'; simp only [cWk, c1, c2 7 i' (by decide) (Or.inl (by decide)), c2 8 i' (by decide) (Or.inl (by decide)), c2 9 i' (by decide) (Or.inl (by decide)), c2 10 i' (by decide) (Or.inl (by decide))]
    · show cMr G A M' i' = cMr G A M i'; simp only [cMr, c1]
    · show cMm G A M' i' = cMm G A M i'; simp only [cMm, c1, c2 29 i' (by decide) (Or.inl (by decide)), c2 30 i' (by decide) (Or.inl (by decide)), c2 31 i' (by decide) (Or.inl (by decide)), c2 32 i' (by decide) (Or.inl (by decide)), c3 33 i' (Or.inl (by decide)), c3 34 i' (Or.inl (by decide))]
    · show cTh G A M' i' = cTh G A M i'; simp only [cTh, tEx, lng, c1, c2 12 i' (by decide) (Or.inl (by decide)), c2 13 i' (by decide) (Or.inl (by decide)), c2 14 i' (by decide) (Or.inl (by decide)), c2 15 i' (by decide) (Or.inl (by decide)), c2 16 i' (by decide) (Or.inl (by decide)), c2 20 i' (by decide) (Or.inl (by decide)), c3 18 i' (Or.inl (by decide))]
    · show cGr G A M' i' = cGr G A M i'
      have hv' := vl_8.mp hv'
      by_cases e : i' / 20 = t
      · rw [e] at hv'
        have z := he (i' % 20) hv'.2
        unfold ent at z
        rw [show 20 * t + i' % 20 = i' by omega] at z
        simp only [Prod.mk.injEq] at z
        simp only [cGr, z.1, z.2.1, z.2.2.1, z.2.2.2.1, z.2.2.2.2]
      · simp only [cGr, c2 22 i' (by decide) (Or.inr e), c2 23 i' (by decide) (Or.inr e), c2 24 i' (by decide) (Or.inr e), c3 25 i' (Or.inr e), c3 26 i' (Or.inr e)]
    · show cLt G A M' i' = cLt G A M i'; simp only [cLt, c1, c2 36 i' (by decide) (Or.inl (by decide)), c2 37 i' (by decide) (Or.inl (by decide)), c2 38 i' (by decide) (Or.inl (by decide)), c2 39 i' (by decide) (Or.inl (by decide)), c2 40 i' (by decide) (Or.inl (by decide)), c2 41 i' (by decide) (Or.inl (by decide)), c2 42 i' (by decide) (Or.inl (by decide)), c2 43 i' (by decide) (Or.inl (by decide)), c3 44 i' (Or.inl (by decide)), c3 45 i' (Or.inl (by decide))]
    · show cQu G A M' i' = cQu G A M i'; simp only [cQu, c1, show ∀ q, M'.2.1 17 q = M.2.1 17 q from fun q => c2 17 q (by decide) (Or.inl (by decide))]
    · show cGo G A M' = cGo G A M; simp only [cGo, c1]
    · show cGs G A M' i' = cGs G A M i'; simp only [cGs, c1, show ∀ q, M'.2.2 47 q = M.2.2 47 q from fun q => c3 47 q (Or.inl (by decide))]
    · show cWo G A M' = cWo G A M; simp only [cWo, c1]
    · show cWs G A M' i' = cWs G A M i'; simp only [cWs, c1, show ∀ q, M'.2.2 48 q = M.2.2 48 q from fun q => c3 48 q (Or.inl (by decide))]
    · show cTo G A M' = cTo G A M; simp only [cTo, c1]
    · show cTr G A M' i' = cTr G A M i'; simp only [cTr, c1, c2 54 i' (by decide) (Or.inl (by decide)), c2 55 i' (by decide) (Or.inl (by decide))]
    · show cRw G A M' i' = cRw G A M i'; simp only [cRw, c1, c2 54 i' (by decide) (Or.inl (by decide)), c2 56 i' (by decide) (Or.inl (by decide)), show ∀ q, M'.2.2 57 q = M.2.2 57 q from fun q => c3 57 q (Or.inl (by decide))]
  exact hR.upd (k := 0) (i := 0) rfl rfl rfl hvv (by rw [hR.bd]; show _ = some (cBd G A M'); unfold cBd; rw [c1]) (fun _ _ => rfl) hcc (by rw [c1]) hlen (fun t' ht' hn' => by rw [c2 20 t' (by decide) (Or.inl (by decide))] at hn'; rw [c1] at ht'; rw [c3 19 t' (Or.inl (by decide))]; exact hR.2.2.2.2.2 t' ht' hn')
/-- no less is there -/
def grw (M M1 : MS) : Prop := nx (M.1 2) ≤ nx (M1.1 2) ∧ nx (M.1 6) ≤ nx (M1.1 6) ∧ nx (M.1 11) ≤ nx (M1.1 11) ∧ nx (M.1 35) ≤ nx (M1.1 35) ∧ (∀ i, M1.2.1 12 i = M.2.1 12 i) ∧ ∀ i, M1.2.1 54 i = M.2.1 54 i
theorem grw.refl (M : MS) : grw M M := ⟨Nat.le_refl _, Nat.le_refl _, Nat.le_refl _, Nat.le_refl _, fun _ => rfl, fun _ => rfl⟩
theorem grw.tr {A B C : MS} (h : grw A B) (h' : grw B C) : grw A C := ⟨Nat.le_trans h.1 h'.1, Nat.le_trans h.2.1 h'.2.1, Nat.le_trans h.2.2.1 h'.2.2.1, Nat.le_trans h.2.2.2.1 h'.2.2.2.1, fun i => (h'.2.2.2.2.1 i).trans (h.2.2.2.2.1 i), fun i => (h'.2.2.2.2.2 i).trans (h.2.2.2.2.2 i)⟩
theorem grw.of {M M1 : MS} (h1 : M1.1 = M.1) (h12 : ∀ i, M1.2.1 12 i = M.2.1 12 i) (h54 : ∀ i, M1.2.1 54 i = M.2.1 54 i) : grw M M1 := ⟨by rw [h1]; exact Nat.le_refl _, by rw [h1]; exact Nat.le_refl _, by rw [h1]; exact Nat.le_refl _, by rw [h1]; exact Nat.le_refl _, h12, h54⟩
theorem sameT.grw {t : Nat} (h : sameT M1 M t) : grw M M1 := grw.of h.1 (fun i => h.2.1 12 i (by decide) (Or.inl (by decide))) (fun i => h.2.1 54 i (by decide) (Or.inl (by decide)))
theorem vld_grw (hg : grw M M1) {k i : Nat} (h2 : k ≠ 2) (h8 : k ≠ 8) (hv : vld A M k i) : vld A1 M1 k i := by
  obtain ⟨g1, g2, g3, g4, g5, g6⟩ := hg
  have hk := vld_lt hv
  rcases (by omega : k = 0 ∨ k = 1 ∨ k = 2 ∨ k = 3 ∨ k = 4 ∨ k = 5 ∨ k = 6 ∨ k = 7 ∨ k = 8 ∨ k = 9 ∨ k = 10 ∨ k = 11 ∨ k = 12 ∨ k = 13 ∨ k = 14 ∨ k = 15 ∨ k = 16 ∨ k = 17) with rfl | rfl | rfl | rfl | rfl | rfl | rfl | rfl | rfl | rfl | rfl | rfl | rfl | rfl | rfl | rfl | rfl | rfl
  · rw [vl_0] at hv ⊢; exact hv
  · rw [vl_1] at hv ⊢; omega
  · exact absurd rfl h2
  · rw [vl_3] at hv ⊢; omega
  · rw [vl_4] at hv ⊢; omega
  · rw [vl_5] at hv ⊢; omega
  · rw [vl_6] at hv ⊢; omega
  · rw [vl_7] at hv ⊢; omega
  · exact absurd rfl h8
  · rw [vl_9] at hv ⊢; omega
  · rw [vl_10] at hv ⊢; exact ⟨by omega, by rw [g5]; exact hv.2⟩
  · rw [vl_11] at hv ⊢; exact hv
  · rw [vl_12] at hv ⊢; exact hv
  · rw [vl_13] at hv ⊢; exact hv
  · rw [vl_14] at hv ⊢; exact hv
  · rw [vl_15] at hv ⊢; exact hv
  · rw [vl_16] at hv ⊢; exact hv
  · rw [vl_17] at hv ⊢; rw [g6]; exact hv
theorem ext.tr (h1 : ext A M A1) (h2 : ext A1 M1 A2) (hg : grw M M1) : ext A M A2 := fun k i k2 k8 hv => (h2 k i k2 k8 (vld_grw hg k2 k8 hv)).trans (h1 k i k2 k8 hv)
theorem tidy_sT {t g : Nat} (h : sameT M1 M t) (hT : tidy M) (hg : M1.2.1 21 t = nI g) (hg2 : g ≤ 20) : tidy M1 := by
  refine ⟨fun t' ht' => ?_, fun y hy => ?_⟩
  · by_cases e : t' = t
    · subst e; rw [hg, nx_nI (by omega)]; exact hg2
    · rw [h.2.2.1 t' e]; rw [h.1] at ht'; exact hT.1 t' ht'
  · rw [h.1, h.2.1 54 y (by decide) (Or.inl (by decide)), h.2.1 55 y (by decide) (Or.inl (by decide))]; exact hT.2 y hy
theorem RH.goG (hR : RH G hp A M h) (hT : tidy M) {t g a : Nat} (ht : t < nx (M.1 11)) (hL : M.2.1 21 t = nI g) (hL4 : g ≤ 20) (ha : a < g)
    (q1 : h' (if A.2.1 (t + 4) = 0 then gE G else A.1 2 (t + 4)) = some (aR 3 (A.2.1 (t + 4)) (lstF (g - 1) (shl (elt A (t + 4)) a)))) (q2 : h' (A.1 1 (t + 4)) = some (oB 0 [.int (A.2.2.1 (t + 4) + 1), .ref (if A.2.1 (t + 4) = 0 then gE G else A.1 2 (t + 4)), .int (nI (g - 1))])) (q3 : ∀ q, q ≠ A.1 1 (t + 4) → q ≠ (if A.2.1 (t + 4) = 0 then gE G else A.1 2 (t + 4)) → h' q = h q) :
    ∃ A', RH G hp A' (goM M t a (g - 1 - a)) h' ∧ ext A M A' ∧ A'.2.2.2 = A.2.2.2 := by
  have hs := goM_sT M t a (g - 1 - a) (by omega)
  have he : ∀ q, q < g - 1 → ent (goM M t a (g - 1 - a)) t q = ent M t (if q < a then q else q + 1) := fun q hq => by
    rw [goM_ent]
    by_cases z : q < a
    · rw [if_neg (by omega), if_pos z]
    · rw [if_pos (by omega), if_neg z]
  refine RH.remG (M' := goM M t a (g - 1 - a)) hR hT ht hL hL4 ha hs.1 (goM_n _ hL (by omega)) hs.2.2.1 hs.2.1 hs.2.2.2 ?_ ?_ q1 q2 q3
  · rintro f q (rfl | rfl | rfl) hq
    · exact congrArg (fun z => z.1) (he q hq)
    · exact congrArg (fun z => z.2.1) (he q hq)
    · exact congrArg (fun z => z.2.2.1) (he q hq)
  · rintro f q (rfl | rfl) hq
    · exact congrArg (fun z => z.2.2.2.1) (he q hq)
    · exact congrArg (fun z => z.2.2.2.2) (he q hq)
end RA21
section K21
variable (l : Launch) (G : WG) {hp h : Hp} {A : AD} {M : MS}
theorem c_dropEnded {t : Nat} (c : Int64) (hR : RH G hp A M h) (hT : tidy M) (ht : t < nx (M.1 11)) (hg : M.2.1 21 t = nI (nx (M.2.1 21 t)))  : SpN l G mX4_dropEnded [.ref (A.1 7 t), .long c] h (fun h' => ∃ A', RH G hp A' (lkM M t c 0 (nx (M.2.1 21 t))) h' ∧ ext A M A' ∧ A'.2.2.2 = A.2.2.2) := by
  refine Sp.intro (lv := [_, _, _, _]) (by decide) rfl (Nat.le_of_ble_eq_true rfl) ?_
  refine wp_widen (rc' := 0) (rs' := 0) (Nat.le_refl _) (Nat.le_refl _) ?_
  have h20 := hT.1 t ht
  generalize hQ0 : (fun (w9 : Option Value) (h' : Hp) => w9 = none ∧ ∃ A', RH G hp A' (lkM M t c 0 (nx (M.2.1 21 t))) h' ∧ ext A M A' ∧ A'.2.2.2 = A.2.2.2) = Q0
  have loop : ∀ n, ∀ (h : Hp) (A1 : AD) (M1 : MS) (g1 : Nat), RH G hp A1 M1 h → ext A M A1 → A1.2.2.2 = A.2.2.2 → sameT M1 M t → M1.2.1 21 t = nI g1 → g1 ≤ 20 → n ≤ g1 → bkP t (fun e => decide (e.2.2.2.2 ≤ c)) n M1 = bkP t (fun e => decide (e.2.2.2.2 ≤ c)) (nx (M.2.1 21 t)) M → wp l G mX4_dropEnded (zM G mX4_dropEnded Q0) 10 [some (.ref (A.1 7 t)), some (.long c), none, some (.int (nI n - 1))] [] h 0 0 := by
    intro n
    induction n with
    | zero =>
      intro h A1 M1 g1 hR hE hA hs hg1 hg2 hn hb
      refine wp_iload_n (pc := 10) dX4_dropEnded_10 rfl rfl ?_
      refine wp_if_lt (pc := 11) (tgt := 48) dX4_dropEnded_11 (by decide) (fun _ => ?_) (fun z => absurd (by decide) z)
      have hfin : RH G hp A1 (lkM M t c 0 (nx (M.2.1 21 t))) h := by
        have hb1 : M1 = bkP t (fun e => decide (e.2.2.2.2 ≤ c)) (nx (M.2.1 21 t)) M := hb
        subst hb1
        obtain ⟨b1, b2, g9, hg9, b3⟩ := bk_sT t (fun e => decide (e.2.2.2.2 ≤ c)) (nx (M.2.1 21 t)) M (nx (M.2.1 21 t)) hg h20 (Nat.le_refl _)
        obtain ⟨l1, l2⟩ := lk_sT t c (nx (M.2.1 21 t)) 0 M (by rw [Nat.zero_add]; exact hg) (by omega)
        have hgl : gls (lkM M t c 0 (nx (M.2.1 21 t))) t = gls (bkP t (fun e => decide (e.2.2.2.2 ≤ c)) (nx (M.2.1 21 t)) M) t := by rw [l2, b2, List.take_zero, List.drop_zero, List.nil_append, List.take_of_length_le (Nat.le_of_eq (gls_len M t)), List.drop_of_length_le (Nat.le_of_eq (gls_len M t)), List.append_nil]
        obtain ⟨y1, y2⟩ := gls_eq hgl
        obtain ⟨g8, z1, z2, z3⟩ := lkM_cnt t c (nx (M.2.1 21 t)) 0 M (by rw [Nat.zero_add]; exact hg)
        exact RH.eqG hR (l1.tr b1.symm) (by rw [z3, b3, nx_nI (by omega), nx_nI (by omega)] at y1; rw [z3, b3, y1]) y2
      exact wp_vret (pc := 48) dX4_dropEnded_48 rfl (by rw [← hQ0]; exact ⟨rfl, A1, hfin, hE, hA⟩)
    | succ n ih =>
      intro h A1 M1 g1 hR hE hA hs hg1 hg2 hn hb
      have e7 : A1.1 7 t = A.1 7 t := hE 7 t (by decide) (by decide) (vl_7.mpr ht)
      rw [← e7, nI_pred]
      have ht1 : t < nx (M1.1 11) := by rw [hs.1]; exact ht
      have hT1 := tidy_sT hs hT hg1 hg2
      have hx1 : nx (M1.2.1 21 t) = g1 := by rw [hg1]; exact nx_nI (by omega)
      have hi : n < nx (M1.2.1 21 t) := by omega
      have hb2 : (if (fun e => decide (e.2.2.2.2 ≤ c)) (ent M1 t n) = true then bkP t (fun e => decide (e.2.2.2.2 ≤ c)) n (goM M1 t n (nx (M1.2.1 21 t) - 1 - n)) else bkP t (fun e => decide (e.2.2.2.2 ≤ c)) n M1) = bkP t (fun e => decide (e.2.2.2.2 ≤ c)) (nx (M.2.1 21 t)) M := hb
      refine wp_iload_n (pc := 10) dX4_dropEnded_10 rfl rfl ?_
      refine wp_if_lt (pc := 11) (tgt := 48) dX4_dropEnded_11 (by decide) (fun z => absurd z (nI_pos (by omega))) (fun _ => ?_)
      refine wp_aload_n (pc := 14) dX4_dropEnded_14 rfl rfl ?_
      refine wp_getT (pc := 15) dX4_dropEnded_15 ft_X4_12 (hR.th ht1) rfl ?_
      refine wp_iload_n (pc := 18) dX4_dropEnded_18 rfl rfl ?_
      refine wc_VP (pc := 19) (μ2 := mJx4a65c_get_915e3) (rc := 0) (rs := 0) [_] dX4_dropEnded_19 rfl (hR.lst (ll := t + 4) (by omega)) rfl cv_X4_40_0 rfl ⟨(Nat.le_of_ble_eq_true rfl), (Nat.le_of_ble_eq_true rfl)⟩ (Nat.le_of_ble_eq_true rfl) (j_get l G _ (hR.lst (ll := t + 4) (by omega)) (hR.dat (by omega)) hi (hR.cap (by omega)).1 (hR.cap (by omega)).2) ?_
      refine wp_cast (pc := 22) dX4_dropEnded_22 (hR.gi hT1 ht1 hi) ca_X4_44_2 ?_
      refine wp_get (pc := 25) dX4_dropEnded_25 fl_X4_63_2 (hR.gi hT1 ht1 hi) rfl ?_
      refine wp_lload_n (pc := 28) dX4_dropEnded_28 rfl rfl ?_
      refine wp_lcmp_gt (pc := 29) (tgt := 42) dX4_dropEnded_29 dX4_dropEnded_30 (by decide) (fun c29 => ?_) (fun c29 => ?_)
      · have hc9 : ¬ M1.2.2 26 (20 * t + n) ≤ c := Int64.not_le.mpr c29
        refine wp_iinc (pc := 42) (v := _ + (-1)) (lv' := [_, _, _, _]) dX4_dropEnded_42 rfl rfl rfl rfl ?_
        refine wp_goto (pc := 45) (tgt := 10) dX4_dropEnded_45 (by decide) ?_
        rw [if_neg (by show ¬ decide (M1.2.2 26 (20 * t + n) ≤ c) = true; rw [decide_eq_false hc9]; decide)] at hb2
        exact wp_lv (ih h A1 M1 g1 hR hE hA hs hg1 hg2 (by omega) hb2) (by rw [e7, Int32.sub_eq_add_neg])
      · have hc9 : M1.2.2 26 (20 * t + n) ≤ c := Int64.not_lt.mp c29
        refine wp_aload_n (pc := 33) dX4_dropEnded_33 rfl rfl ?_
        refine wp_getT (pc := 34) dX4_dropEnded_34 ft_X4_12 (hR.th ht1) rfl ?_
        refine wp_iload_n (pc := 37) dX4_dropEnded_37 rfl rfl ?_
        refine wc_VV (pc := 38) (μ2 := mJx4a65c_remove_915e3) (rc := 0) (rs := 0) [_] dX4_dropEnded_38 rfl (hR.lst (ll := t + 4) (by omega)) rfl cv_X4_66_0 rfl ⟨(Nat.le_of_ble_eq_true rfl), (Nat.le_of_ble_eq_true rfl)⟩ (Nat.le_of_ble_eq_true rfl) (j_remove l G _ (hR.lst (ll := t + 4) (by omega)) (hR.dat (by omega)) hi (hR.cap (by omega)).1 (hR.cap (by omega)).2 (fun i hi => hR.vElt hT1 (by omega) hi)) (fun r h q => ?_)
        obtain ⟨rfl, k1, k2, k3⟩ := q
        rw [show len M1 (t + 4) = g1 from hx1] at k1 k2
        obtain ⟨A2, hR, hE2, hA2⟩ := RH.goG hR hT1 ht1 hg1 hg2 (by omega) k1 k2 k3
        refine wp_pop (pc := 41) dX4_dropEnded_41 rfl ?_
        refine wp_iinc (pc := 42) (v := _ + (-1)) (lv' := [_, _, _, _]) dX4_dropEnded_42 rfl rfl rfl rfl ?_
        refine wp_goto (pc := 45) (tgt := 10) dX4_dropEnded_45 (by decide) ?_
        rw [if_pos (by show decide (M1.2.2 26 (20 * t + n) ≤ c) = true; exact decide_eq_true hc9)] at hb2
        rw [hx1] at hb2
        exact wp_lv (ih h A2 (goM M1 t n (g1 - 1 - n)) (g1 - 1) hR (hE.tr hE2 hs.grw) (hA2.trans hA) ((goM_sT M1 t n _ (by omega)).tr hs) (goM_n _ hg1 (by omega)) (by omega) (by omega) hb2) (by rw [e7, Int32.sub_eq_add_neg])
  refine wp_aload_n (pc := 0) dX4_dropEnded_0 rfl rfl ?_
  refine wp_getT (pc := 1) dX4_dropEnded_1 ft_X4_12 (hR.th ht) rfl ?_
  refine wc_VP (pc := 4) (μ2 := mJx4a65c_size_8abf5) (rc := 0) (rs := 0) [] dX4_dropEnded_4 rfl (hR.lst (ll := t + 4) (by omega)) rfl cv_X4_36_0 rfl ⟨(Nat.le_of_ble_eq_true rfl), (Nat.le_of_ble_eq_true rfl)⟩ (Nat.le_of_ble_eq_true rfl) (show SpP l G mJx4a65c_size_8abf5 [_] _ (.int (nI (nx (M.2.1 21 t)))) from j_size l G _ (hR.lst (ll := t + 4) (by omega))) ?_
  refine wp_iconst (pc := 7) (v := 1) dX4_dropEnded_7 (by decide) ?_
  refine wp_isub (pc := 8) dX4_dropEnded_8 ?_
  refine wp_istore_n (pc := 9) (lv' := [_, _, _, _]) dX4_dropEnded_9 rfl (Nat.le_of_ble_eq_true rfl) rfl rfl ?_
  exact loop (nx (M.2.1 21 t)) h A M (nx (M.2.1 21 t)) hR (ext.refl A M) rfl (sameT.refl M t) hg h20 (Nat.le_refl _) rfl
theorem er_flt {M : MS} {t a : Nat} {w : Int32} (ha : a < nx (M.2.1 21 t)) (hw : M.2.1 22 (20 * t + a) = w) (hu : ∀ q, q < nx (M.2.1 21 t) → M.2.1 22 (20 * t + q) = w → q = a) : (gls M t).eraseIdx a = (gls M t).filter (fun e => !decide (e.1 = w)) := by
  have he := gls_get ha
  have h1 : ((gls M t).take a).filter (fun e => !decide (e.1 = w)) = (gls M t).take a := by
    refine List.filter_eq_self.mpr (fun e hm => ?_)
    obtain ⟨i, hi⟩ := List.mem_iff_getElem?.mp hm
    rw [List.getElem?_take] at hi
    split at hi
    · rename_i hia
      rw [gls_get (by omega)] at hi
      cases hi
      simp only [Bool.not_eq_true', decide_eq_false_iff_not]
      exact fun z => absurd (hu i (by omega) z) (by omega)
    · cases hi
  have h2 : ((gls M t).drop (a + 1)).filter (fun e => !decide (e.1 = w)) = (gls M t).drop (a + 1) := by
    refine List.filter_eq_self.mpr (fun e hm => ?_)
    obtain ⟨i, hi⟩ := List.mem_iff_getElem?.mp hm
    rw [List.getElem?_drop] at hi
    by_cases hia : a + 1 + i < nx (M.2.1 21 t)
    · rw [gls_get hia] at hi
      cases hi
      simp only [Bool.not_eq_true', decide_eq_false_iff_not]
      exact fun z => absurd (hu _ hia z) (by omega)
    · rw [gls_none (by omega)] at hi; cases hi
  have hc : gls M t = (gls M t).take a ++ ent M t a :: (gls M t).drop (a + 1) := by rw [← drop_s he, List.take_append_drop]
  have hd : (!decide ((ent M t a).1 = w)) = false := by rw [decide_eq_true (show (ent M t a).1 = w from hw)]; rfl
  rw [List.eraseIdx_eq_take_drop_succ]
  conv => rhs; rw [hc, List.filter_append, List.filter_cons, h1, h2, hd]
  simp
theorem c_dropGrantOf {t : Nat} {a : Nat} (w : Int32) (hR : RH G hp A M h) (hT : tidy M) (ht : t < nx (M.1 11)) (hg : M.2.1 21 t = nI (nx (M.2.1 21 t))) (ha : a < nx (M.2.1 21 t)) (hw : M.2.1 22 (20 * t + a) = w) (hu : ∀ q, q < nx (M.2.1 21 t) → M.2.1 22 (20 * t + q) = w → q = a) : SpN l G mX4_dropGrantOf [.ref (A.1 7 t), .int w] h (fun h' => ∃ A', RH G hp A' (goM M t a (nx (M.2.1 21 t) - 1 - a)) h' ∧ ext A M A' ∧ A'.2.2.2 = A.2.2.2) := by
  refine Sp.intro (lv := [_, _, _]) (by decide) rfl (Nat.le_of_ble_eq_true rfl) ?_
  refine wp_widen (rc' := 0) (rs' := 0) (Nat.le_refl _) (Nat.le_refl _) ?_
  have h20 := hT.1 t ht
  generalize hQ0 : (fun (w9 : Option Value) (h' : Hp) => w9 = none ∧ ∃ A', RH G hp A' (goM M t a (nx (M.2.1 21 t) - 1 - a)) h' ∧ ext A M A' ∧ A'.2.2.2 = A.2.2.2) = Q0
  have loop : ∀ n, ∀ (h : Hp) (A1 : AD) (M1 : MS) (g1 : Nat), RH G hp A1 M1 h → ext A M A1 → A1.2.2.2 = A.2.2.2 → sameT M1 M t → M1.2.1 21 t = nI g1 → g1 ≤ 20 → n ≤ g1 → bkP t (fun e => decide (e.1 = w)) n M1 = bkP t (fun e => decide (e.1 = w)) (nx (M.2.1 21 t)) M → wp l G mX4_dropGrantOf (zM G mX4_dropGrantOf Q0) 10 [some (.ref (A.1 7 t)), some (.int w), some (.int (nI n - 1))] [] h 0 0 := by
    intro n
    induction n with
    | zero =>
      intro h A1 M1 g1 hR hE hA hs hg1 hg2 hn hb
      refine wp_iload_n (pc := 10) dX4_dropGrantOf_10 rfl rfl ?_
      refine wp_if_lt (pc := 11) (tgt := 47) dX4_dropGrantOf_11 (by decide) (fun _ => ?_) (fun z => absurd (by decide) z)
      have hfin : RH G hp A1 (goM M t a (nx (M.2.1 21 t) - 1 - a)) h := by
        have hb1 : M1 = bkP t (fun e => decide (e.1 = w)) (nx (M.2.1 21 t)) M := hb
        subst hb1
        obtain ⟨b1, b2, g9, hg9, b3⟩ := bk_sT t (fun e => decide (e.1 = w)) (nx (M.2.1 21 t)) M (nx (M.2.1 21 t)) hg h20 (Nat.le_refl _)
        have hgl : gls (goM M t a (nx (M.2.1 21 t) - 1 - a)) t = gls (bkP t (fun e => decide (e.1 = w)) (nx (M.2.1 21 t)) M) t := by rw [gls_go hg h20 ha, b2, List.take_of_length_le (Nat.le_of_eq (gls_len M t)), List.drop_of_length_le (Nat.le_of_eq (gls_len M t)), er_flt ha hw hu, List.append_nil]
        obtain ⟨y1, y2⟩ := gls_eq hgl
        have z3 := goM_n (a := a) (nx (M.2.1 21 t) - 1 - a) hg (by omega)
        exact RH.eqG hR ((goM_sT M t a _ (by omega)).tr b1.symm) (by rw [z3, b3, nx_nI (by omega), nx_nI (by omega)] at y1; rw [z3, b3, y1]) y2
      exact wp_vret (pc := 47) dX4_dropGrantOf_47 rfl (by rw [← hQ0]; exact ⟨rfl, A1, hfin, hE, hA⟩)
    | succ n ih =>
      intro h A1 M1 g1 hR hE hA hs hg1 hg2 hn hb
      have e7 : A1.1 7 t = A.1 7 t := hE 7 t (by decide) (by decide) (vl_7.mpr ht)
      rw [← e7, nI_pred]
      have ht1 : t < nx (M1.1 11) := by rw [hs.1]; exact ht
      have hT1 := tidy_sT hs hT hg1 hg2
      have hx1 : nx (M1.2.1 21 t) = g1 := by rw [hg1]; exact nx_nI (by omega)
      have hi : n < nx (M1.2.1 21 t) := by omega
      have hb2 : (if (fun e => decide (e.1 = w)) (ent M1 t n) = true then bkP t (fun e => decide (e.1 = w)) n (goM M1 t n (nx (M1.2.1 21 t) - 1 - n)) else bkP t (fun e => decide (e.1 = w)) n M1) = bkP t (fun e => decide (e.1 = w)) (nx (M.2.1 21 t)) M := hb
      refine wp_iload_n (pc := 10) dX4_dropGrantOf_10 rfl rfl ?_
      refine wp_if_lt (pc := 11) (tgt := 47) dX4_dropGrantOf_11 (by decide) (fun z => absurd z (nI_pos (by omega))) (fun _ => ?_)
      refine wp_aload_n (pc := 14) dX4_dropGrantOf_14 rfl rfl ?_
      refine wp_getT (pc := 15) dX4_dropGrantOf_15 ft_X4_12 (hR.th ht1) rfl ?_
      refine wp_iload_n (pc := 18) dX4_dropGrantOf_18 rfl rfl ?_
      refine wc_VP (pc := 19) (μ2 := mJx4a65c_get_915e3) (rc := 0) (rs := 0) [_] dX4_dropGrantOf_19 rfl (hR.lst (ll := t + 4) (by omega)) rfl cv_X4_40_0 rfl ⟨(Nat.le_of_ble_eq_true rfl), (Nat.le_of_ble_eq_true rfl)⟩ (Nat.le_of_ble_eq_true rfl) (j_get l G _ (hR.lst (ll := t + 4) (by omega)) (hR.dat (by omega)) hi (hR.cap (by omega)).1 (hR.cap (by omega)).2) ?_
      refine wp_cast (pc := 22) dX4_dropGrantOf_22 (hR.gi hT1 ht1 hi) ca_X4_44_2 ?_
      refine wp_get (pc := 25) dX4_dropGrantOf_25 fl_X4_49_2 (hR.gi hT1 ht1 hi) rfl ?_
      refine wp_iload_n (pc := 28) dX4_dropGrantOf_28 rfl rfl ?_
      refine wp_icmp_ne (pc := 29) (tgt := 41) dX4_dropGrantOf_29 (by decide) (fun c29 => ?_) (fun c29 => ?_)
      · have hc9 : ¬ M1.2.1 22 (20 * t + n) = w := c29
        refine wp_iinc (pc := 41) (v := _ + (-1)) (lv' := [_, _, _]) dX4_dropGrantOf_41 rfl rfl rfl rfl ?_
        refine wp_goto (pc := 44) (tgt := 10) dX4_dropGrantOf_44 (by decide) ?_
        rw [if_neg (by show ¬ decide (M1.2.1 22 (20 * t + n) = w) = true; rw [decide_eq_false hc9]; decide)] at hb2
        exact wp_lv (ih h A1 M1 g1 hR hE hA hs hg1 hg2 (by omega) hb2) (by rw [e7, Int32.sub_eq_add_neg])
      · have hc9 : M1.2.1 22 (20 * t + n) = w := c29
        refine wp_aload_n (pc := 32) dX4_dropGrantOf_32 rfl rfl ?_
        refine wp_getT (pc := 33) dX4_dropGrantOf_33 ft_X4_12 (hR.th ht1) rfl ?_
        refine wp_iload_n (pc := 36) dX4_dropGrantOf_36 rfl rfl ?_
        refine wc_VV (pc := 37) (μ2 := mJx4a65c_remove_915e3) (rc := 0) (rs := 0) [_] dX4_dropGrantOf_37 rfl (hR.lst (ll := t + 4) (by omega)) rfl cv_X4_66_0 rfl ⟨(Nat.le_of_ble_eq_true rfl), (Nat.le_of_ble_eq_true rfl)⟩ (Nat.le_of_ble_eq_true rfl) (j_remove l G _ (hR.lst (ll := t + 4) (by omega)) (hR.dat (by omega)) hi (hR.cap (by omega)).1 (hR.cap (by omega)).2 (fun i hi => hR.vElt hT1 (by omega) hi)) (fun r h q => ?_)
        obtain ⟨rfl, k1, k2, k3⟩ := q
        rw [show len M1 (t + 4) = g1 from hx1] at k1 k2
        obtain ⟨A2, hR, hE2, hA2⟩ := RH.goG hR hT1 ht1 hg1 hg2 (by omega) k1 k2 k3
        refine wp_pop (pc := 40) dX4_dropGrantOf_40 rfl ?_
        refine wp_iinc (pc := 41) (v := _ + (-1)) (lv' := [_, _, _]) dX4_dropGrantOf_41 rfl rfl rfl rfl ?_
        refine wp_goto (pc := 44) (tgt := 10) dX4_dropGrantOf_44 (by decide) ?_
        rw [if_pos (by show decide (M1.2.1 22 (20 * t + n) = w) = true; exact decide_eq_true hc9)] at hb2
        rw [hx1] at hb2
        exact wp_lv (ih h A2 (goM M1 t n (g1 - 1 - n)) (g1 - 1) hR (hE.tr hE2 hs.grw) (hA2.trans hA) ((goM_sT M1 t n _ (by omega)).tr hs) (goM_n _ hg1 (by omega)) (by omega) (by omega) hb2) (by rw [e7, Int32.sub_eq_add_neg])
  refine wp_aload_n (pc := 0) dX4_dropGrantOf_0 rfl rfl ?_
  refine wp_getT (pc := 1) dX4_dropGrantOf_1 ft_X4_12 (hR.th ht) rfl ?_
  refine wc_VP (pc := 4) (μ2 := mJx4a65c_size_8abf5) (rc := 0) (rs := 0) [] dX4_dropGrantOf_4 rfl (hR.lst (ll := t + 4) (by omega)) rfl cv_X4_36_0 rfl ⟨(Nat.le_of_ble_eq_true rfl), (Nat.le_of_ble_eq_true rfl)⟩ (Nat.le_of_ble_eq_true rfl) (show SpP l G mJx4a65c_size_8abf5 [_] _ (.int (nI (nx (M.2.1 21 t)))) from j_size l G _ (hR.lst (ll := t + 4) (by omega))) ?_
  refine wp_iconst (pc := 7) (v := 1) dX4_dropGrantOf_7 (by decide) ?_
  refine wp_isub (pc := 8) dX4_dropGrantOf_8 ?_
  refine wp_istore_n (pc := 9) (lv' := [_, _, _]) dX4_dropGrantOf_9 rfl (Nat.le_of_ble_eq_true rfl) rfl rfl ?_
  exact loop (nx (M.2.1 21 t)) h A M (nx (M.2.1 21 t)) hR (ext.refl A M) rfl (sameT.refl M t) hg h20 (Nat.le_refl _) rfl
end K21
