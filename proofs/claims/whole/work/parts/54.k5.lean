/-! ===== the class: first public methods ===== -/
section K5
variable (l : Launch) (G : WG) {hp h : Hp} {A : AD} {M : MS}
theorem k_refuse (v : Int32) (hR : RH G hp A M h)  : KS l G hp A mX11_refuse [.int v] M h (.int (-1)) (sS M 58 v) := by
  refine Sp.intro (lv := [_, _]) (by decide) rfl (Nat.le_of_ble_eq_true rfl) ?_
  refine wp_widen (rc' := 0) (rs' := 0) (Nat.le_refl _) (Nat.le_refl _) ?_
  refine wp_aload_n (pc := 0) dX11_refuse_0 rfl rfl ?_
  refine wp_iload_n (pc := 1) dX11_refuse_1 rfl rfl ?_
  refine wp_putC (pc := 2) dX11_refuse_2 fl_X11_67_12 hR.bd (Or.inl rfl) (Nat.le_of_ble_eq_true rfl) rfl rfl rfl (fun h hq1 hq2 => ?_)
  have hR := hR.k0 (M' := sS M 58 v) rfl rfl rfl rfl rfl rfl hq1 hq2
  refine wp_iconst (pc := 5) (v := (-1)) dX11_refuse_5 (by decide) ?_
  exact wp_iret (pc := 6) dX11_refuse_6 rfl ⟨_, rfl, rfl, A, hR, ext.refl A M⟩
theorem k_status  (hR : RH G hp A M h)  : SpP l G mX11_status [.ref (A.1 0 0)] h (.int (M.1 58)) := by
  refine Sp.intro (lv := [_]) (by decide) rfl (Nat.le_of_ble_eq_true rfl) ?_
  refine wp_widen (rc' := 0) (rs' := 0) (Nat.le_refl _) (Nat.le_refl _) ?_
  refine wp_aload_n (pc := 0) dX11_status_0 rfl rfl ?_
  refine wp_get (pc := 1) dX11_status_1 fl_X11_67_12 hR.bd rfl ?_
  exact wp_iret (pc := 4) dX11_status_4 rfl ⟨rfl, rfl⟩
theorem lt6 {S : Int32} (h : S = nI (nx S)) (h6 : nx S ≤ 6) : (S < 6) ↔ ¬ S = 6 := by
  rw [h, show (6 : Int32) = nI 6 from rfl, nI_ltI (by omega) (by decide), nI_eq (by omega) (by decide)]; omega
theorem k_store  (hR : RH G hp A M h) (hS : M.1 46 = nI (nx (M.1 46))) (hS6 : nx (M.1 46) ≤ 6) : KS l G hp A mX11_store [] M h (.int (f_store M).1) ((f_store M).2) := by
  refine Sp.intro (lv := [_]) (by decide) rfl (Nat.le_of_ble_eq_true rfl) ?_
  refine wp_widen (rc' := 0) (rs' := 0) (Nat.le_refl _) (Nat.le_refl _) ?_
  refine wp_aload_n (pc := 0) dX11_store_0 rfl rfl ?_
  refine wp_get (pc := 1) dX11_store_1 fl_X11_39_12 hR.bd rfl ?_
  refine wp_bipush (pc := 4) (v := 6) dX11_store_4 (by decide) ?_
  refine wp_icmp_lt (pc := 6) (tgt := 12) dX11_store_6 (by decide) (fun c6 => ?_) (fun c6 => ?_)
  · have c6 : ¬ M.1 46 = 6 := (lt6 hS hS6).mp c6
    refine wp_aload_n (pc := 12) dX11_store_12 rfl rfl ?_
    refine wp_dup (pc := 13) dX11_store_13 rfl ?_
    refine wp_get (pc := 14) dX11_store_14 fl_X11_39_12 hR.bd rfl ?_
    refine wp_iconst (pc := 17) (v := 1) dX11_store_17 (by decide) ?_
    refine wp_iadd (pc := 18) dX11_store_18 ?_
    refine wp_putC (pc := 19) dX11_store_19 fl_X11_39_12 hR.bd (Or.inl rfl) (Nat.le_of_ble_eq_true rfl) rfl rfl rfl (fun h hq1 hq2 => ?_)
    have hR := hR.k0 (M' := sS M 46 (M.1 46 + 1)) rfl rfl rfl rfl rfl rfl hq1 hq2
    refine wp_aload_n (pc := 22) dX11_store_22 rfl rfl ?_
    refine wp_get (pc := 23) dX11_store_23 fl_X11_39_12 hR.bd rfl ?_
    refine wp_iconst (pc := 26) (v := 1) dX11_store_26 (by decide) ?_
    refine wp_isub (pc := 27) dX11_store_27 ?_
    exact wp_iret (pc := 28) dX11_store_28 rfl ⟨_, rfl, by simp only [f_store, eq_false c6, if_true, if_false, Bool.true_eq_false, Bool.false_eq_true, reduceIte, reduceCtorEq, Bool.not_true, Bool.not_false, true_and, and_true, and_false, false_and, or_true, true_or, or_false, false_or, not_true_eq_false, not_false_eq_true] <;> rfl, A, by simp only [f_store, eq_false c6, if_true, if_false, Bool.true_eq_false, Bool.false_eq_true, reduceIte, reduceCtorEq, Bool.not_true, Bool.not_false, true_and, and_true, and_false, false_and, or_true, true_or, or_false, false_or, not_true_eq_false, not_false_eq_true] <;> exact hR, ext.refl A M⟩
  · have c6 : M.1 46 = 6 := Decidable.byContradiction (fun z => c6 ((lt6 hS hS6).mpr z))
    refine wp_bipush (pc := 9) (v := (-4)) dX11_store_9 (by decide) ?_
    exact wp_iret (pc := 11) dX11_store_11 rfl ⟨_, rfl, by simp only [f_store, eq_true c6, if_true, if_false, Bool.true_eq_false, Bool.false_eq_true, reduceIte, reduceCtorEq, Bool.not_true, Bool.not_false, true_and, and_true, and_false, false_and, or_true, true_or, or_false, false_or, not_true_eq_false, not_false_eq_true] <;> rfl, A, by simp only [f_store, eq_true c6, if_true, if_false, Bool.true_eq_false, Bool.false_eq_true, reduceIte, reduceCtorEq, Bool.not_true, Bool.not_false, true_and, and_true, and_false, false_and, or_true, true_or, or_false, false_or, not_true_eq_false, not_false_eq_true] <;> exact hR, ext.refl A M⟩
theorem k_tick (n : Int32) (hR : RH G hp A M h)  : KS l G hp A mX11_tick [.int n] M h (.int (f_tick M n).1) ((f_tick M n).2) := by
  refine Sp.intro (lv := [_, _]) (by decide) rfl (Nat.le_of_ble_eq_true rfl) ?_
  refine wp_widen (rc' := 0) (rs' := 0) (Nat.le_refl _) (Nat.le_refl _) ?_
  refine wp_iload_n (pc := 0) dX11_tick_0 rfl rfl ?_
  refine wp_iconst (pc := 1) (v := 0) dX11_tick_1 (by decide) ?_
  refine wp_ldc (pc := 2) dX11_tick_2 w2_180 ?_
  refine wc_SP (pc := 4) (μ2 := mX11_isWithin) (rc := 0) (rs := 0) [_, _, _] dX11_tick_4 rfl cs_X11_103 rfl ⟨(Nat.le_of_ble_eq_true rfl), (Nat.le_of_ble_eq_true rfl)⟩ (Nat.le_of_ble_eq_true rfl) (c_isWithin l G _ _ _ _) ?_
  refine wp_ifB_ne (pc := 7) (tgt := 13) dX11_tick_7 (by decide) (fun c7 => ?_) (fun c7 => ?_)
  · skip
    refine wp_aload_n (pc := 13) dX11_tick_13 rfl rfl ?_
    refine wp_get (pc := 14) dX11_tick_14 fl_X11_43_12 hR.bd rfl ?_
    refine wp_iload_n (pc := 17) dX11_tick_17 rfl rfl ?_
    refine wp_iadd (pc := 18) dX11_tick_18 ?_
    refine wp_ldc (pc := 19) dX11_tick_19 w2_181 ?_
    refine wp_icmp_le (pc := 21) (tgt := 27) dX11_tick_21 (by decide) (fun c21 => ?_) (fun c21 => ?_)
    · skip
      refine wp_aload_n (pc := 27) dX11_tick_27 rfl rfl ?_
      refine wp_dup (pc := 28) dX11_tick_28 rfl ?_
      refine wp_get (pc := 29) dX11_tick_29 fl_X11_43_12 hR.bd rfl ?_
      refine wp_iload_n (pc := 32) dX11_tick_32 rfl rfl ?_
      refine wp_iadd (pc := 33) dX11_tick_33 ?_
      refine wp_putC (pc := 34) dX11_tick_34 fl_X11_43_12 hR.bd (Or.inl rfl) (Nat.le_of_ble_eq_true rfl) rfl rfl rfl (fun h hq1 hq2 => ?_)
      have hR := hR.k0 (M' := sS M 1 (M.1 1 + n)) rfl rfl rfl rfl rfl rfl hq1 hq2
      refine wp_aload_n (pc := 37) dX11_tick_37 rfl rfl ?_
      refine wp_get (pc := 38) dX11_tick_38 fl_X11_43_12 hR.bd rfl ?_
      exact wp_iret (pc := 41) dX11_tick_41 rfl ⟨_, rfl, by simp only [f_tick, c7, eq_true c21, if_true, if_false, Bool.true_eq_false, Bool.false_eq_true, reduceIte, reduceCtorEq, Bool.not_true, Bool.not_false, true_and, and_true, and_false, false_and, or_true, true_or, or_false, false_or, not_true_eq_false, not_false_eq_true] <;> rfl, A, by simp only [f_tick, c7, eq_true c21, if_true, if_false, Bool.true_eq_false, Bool.false_eq_true, reduceIte, reduceCtorEq, Bool.not_true, Bool.not_false, true_and, and_true, and_false, false_and, or_true, true_or, or_false, false_or, not_true_eq_false, not_false_eq_true] <;> exact hR, ext.refl A M⟩
    · skip
      refine wp_bipush (pc := 24) (v := (-4)) dX11_tick_24 (by decide) ?_
      exact wp_iret (pc := 26) dX11_tick_26 rfl ⟨_, rfl, by simp only [f_tick, c7, eq_false c21, if_true, if_false, Bool.true_eq_false, Bool.false_eq_true, reduceIte, reduceCtorEq, Bool.not_true, Bool.not_false, true_and, and_true, and_false, false_and, or_true, true_or, or_false, false_or, not_true_eq_false, not_false_eq_true] <;> rfl, A, by simp only [f_tick, c7, eq_false c21, if_true, if_false, Bool.true_eq_false, Bool.false_eq_true, reduceIte, reduceCtorEq, Bool.not_true, Bool.not_false, true_and, and_true, and_false, false_and, or_true, true_or, or_false, false_or, not_true_eq_false, not_false_eq_true] <;> exact hR, ext.refl A M⟩
  · skip
    refine wp_bipush (pc := 10) (v := (-2)) dX11_tick_10 (by decide) ?_
    exact wp_iret (pc := 12) dX11_tick_12 rfl ⟨_, rfl, by simp only [f_tick, c7, if_true, if_false, Bool.true_eq_false, Bool.false_eq_true, reduceIte, reduceCtorEq, Bool.not_true, Bool.not_false, true_and, and_true, and_false, false_and, or_true, true_or, or_false, false_or, not_true_eq_false, not_false_eq_true] <;> rfl, A, by simp only [f_tick, c7, if_true, if_false, Bool.true_eq_false, Bool.false_eq_true, reduceIte, reduceCtorEq, Bool.not_true, Bool.not_false, true_and, and_true, and_false, false_and, or_true, true_or, or_false, false_or, not_true_eq_false, not_false_eq_true] <;> exact hR, ext.refl A M⟩
theorem pAt_s {A : AD} {M : MS} {what who : Int32} {a : Nat} (hb : bnd M) (h : pAt A M what who = some a) : (what = 0 ∧ ∃ j, j < nx (M.1 2) ∧ who = nI j ∧ a = A.1 3 j) ∨ (¬ what = 0 ∧ what = 1 ∧ ∃ j, j < nx (M.1 6) ∧ who = nI j ∧ a = A.1 4 j) := by
  have hb9 := hb
  unfold bnd at hb9
  unfold pAt at h
  split at h
  · rename_i h0; exact Or.inl ⟨h0, oAt_s h (by omega)⟩
  · rename_i h0
    split at h
    · rename_i h1; exact Or.inr ⟨h0, h1, oAt_s h (by omega)⟩
    · cases h
theorem pAt_n {A : AD} {M : MS} {what who : Int32} (h : pAt A M what who = none) : ¬ (what = 0 ∧ isIx who (nx (M.1 2)) = true) ∧ ¬ (what = 1 ∧ isIx who (nx (M.1 6)) = true) := by
  unfold pAt at h
  split at h
  · rename_i h0
    exact ⟨fun z => (Bool.eq_false_iff.mp (oAt_n h)) z.2, fun z => absurd (h0.symm.trans z.1) (by decide)⟩
  · rename_i h0
    split at h
    · rename_i h1
      exact ⟨fun z => h0 z.1, fun z => (Bool.eq_false_iff.mp (oAt_n h)) z.2⟩
    · rename_i h1; exact ⟨fun z => h0 z.1, fun z => h1 z.1⟩
theorem k_clock (what who : Int32) (hR : RH G hp A M h) (hb : bnd M) : SpP l G mX11_clock [.ref (A.1 0 0), .int what, .int who] h (.long (f_clock M what who)) := by
  refine Sp.intro (lv := [_, _, _, _]) (by decide) rfl (Nat.le_of_ble_eq_true rfl) ?_
  refine wp_widen (rc' := 0) (rs' := 0) (Nat.le_refl _) (Nat.le_refl _) ?_
  have hb9 := hb
  unfold bnd at hb9
  refine wp_aload_n (pc := 0) dX11_clock_0 rfl rfl ?_
  refine wp_iload_n (pc := 1) dX11_clock_1 rfl rfl ?_
  refine wp_iload_n (pc := 2) dX11_clock_2 rfl rfl ?_
  refine wc_VP (pc := 3) (μ2 := mX11_partyAt) (rc := 0) (rs := 0) [_, _] dX11_clock_3 rfl hR.bd rfl cv_X11_113_12 rfl ⟨(Nat.le_of_ble_eq_true rfl), (Nat.le_of_ble_eq_true rfl)⟩ (Nat.le_of_ble_eq_true rfl) (c_partyAt l G _ _ hR hb) ?_
  refine wp_astore_nQ (pc := 6) (lv' := [_, _, _, _]) dX11_clock_6 rfl (Nat.le_of_ble_eq_true rfl) rfl rfl ?_
  refine wp_aload_nQ (pc := 7) dX11_clock_7 rfl rfl ?_
  refine wp_ifnonnull (pc := 8) (tgt := 17) dX11_clock_8 (by decide) (fun a8 c8 => ?_) (fun c8 => ?_)
  · skip
    rcases pAt_s hb c8 with ⟨h0, j, hj, rfl, rfl⟩ | ⟨h0, h1, j, hj, rfl, rfl⟩
    · rw [c8]
      have hf : f_clock M what (nI j) = kClk M j := by unfold f_clock; rw [if_pos ⟨h0, isIx_nI hj (by omega)⟩, nx_nI (show j < 2 ^ 31 by omega)]
      refine wp_aload_n (pc := 17) dX11_clock_17 rfl rfl ?_
      refine wp_aload_n (pc := 18) dX11_clock_18 rfl rfl ?_
      refine wp_get (pc := 19) dX11_clock_19 fl_X11_43_12 hR.bd rfl ?_
      refine wc_VP (pc := 22) (μ2 := mX5_shows) (rc := 0) (rs := 0) [_] dX11_clock_22 rfl (hR.kp hj) rfl cv_X11_119_6 rfl ⟨(Nat.le_of_ble_eq_true rfl), (Nat.le_of_ble_eq_true rfl)⟩ (Nat.le_of_ble_eq_true rfl) (c_shows6 l G _ (hR.kp hj)) ?_
      exact wp_lret (pc := 25) dX11_clock_25 rfl ⟨by rw [hf]; rfl, rfl⟩
    · rw [c8]
      have hf : f_clock M what (nI j) = wClk M j := by unfold f_clock; rw [if_neg (fun z => h0 z.1), if_pos ⟨h1, isIx_nI hj (by omega)⟩, nx_nI (show j < 2 ^ 31 by omega)]
      refine wp_aload_n (pc := 17) dX11_clock_17 rfl rfl ?_
      refine wp_aload_n (pc := 18) dX11_clock_18 rfl rfl ?_
      refine wp_get (pc := 19) dX11_clock_19 fl_X11_43_12 hR.bd rfl ?_
      refine wc_VP (pc := 22) (μ2 := mX5_shows) (rc := 0) (rs := 0) [_] dX11_clock_22 rfl (hR.wk hj) rfl cv_X11_119_11 rfl ⟨(Nat.le_of_ble_eq_true rfl), (Nat.le_of_ble_eq_true rfl)⟩ (Nat.le_of_ble_eq_true rfl) (c_shows11 l G _ (hR.wk hj)) ?_
      exact wp_lret (pc := 25) dX11_clock_25 rfl ⟨by rw [hf]; rfl, rfl⟩
  · skip
    refine wp_ldc2_w (pc := 11) dX11_clock_11 w2_212 ?_
    refine wp_goto (pc := 14) (tgt := 25) dX11_clock_14 (by decide) ?_
    exact wp_lret (pc := 25) dX11_clock_25 rfl ⟨by unfold f_clock; rw [if_neg (pAt_n c8).1, if_neg (pAt_n c8).2], rfl⟩
end K5
