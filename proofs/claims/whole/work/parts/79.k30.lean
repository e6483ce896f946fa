/-! ===== the class: forge ===== -/
section K30
variable (l : Launch) (G : WG) {hp h : Hp} {A : AD} {M : MS}
theorem tok_i {x b : Int32} (hb : b = 0 ∨ b = 1) : (bi (decide (x < 4)) = b) ↔ ((if 4 ≤ x then (0 : Int32) else 1) = b) := by
  by_cases h : x < 4
  · rw [decide_eq_true h, if_neg (Int32.not_le.mpr h)]; exact Iff.rfl
  · rw [decide_eq_false h, if_pos (Int32.not_lt.mp h)]; exact Iff.rfl
theorem c_tol {y : Nat} (bb : Int32) (hbb : bb = 0 ∨ bb = 1) (hR : RH G hp A M h) (hy : y < 6) (h54 : t54 M y) (ht1 : M.2.1 54 y = 1 → nx (M.2.1 55 y) < nx (M.1 11)) (ht2 : M.2.1 54 y = 2 → nx (M.2.1 55 y) < nx (M.1 35))  : SpV l G mX11_thingOfLetter (.ref (A.1 0 0) :: .ref (A.1 16 y) :: [.int bb]) h (fun r h' => r = .int (tolF M y bb).1 ∧ RH G hp A (tolF M y bb).2 h') := by
  refine Sp.intro (lv := [_, _, _, _]) (by decide) rfl (Nat.le_of_ble_eq_true rfl) ?_
  refine wp_widen (rc' := 0) (rs' := 0) (Nat.le_refl _) (Nat.le_refl _) ?_
  have h549 := h54
  rcases h54 with e | e | e | e | e
  · refine wp_aload_n (pc := 0) dX11_thingOfLetter_0 rfl rfl ?_
    refine wp_get (pc := 1) dX11_thingOfLetter_1 fl_X11_337_9 (hR.tr0 hy e) rfl ?_
    refine wp_astore_nN (pc := 4) (lv' := [_, _, _, _]) dX11_thingOfLetter_4 rfl (Nat.le_of_ble_eq_true rfl) rfl rfl ?_
    refine wp_aload_nN (pc := 5) dX11_thingOfLetter_5 rfl rfl ?_
    refine wp_ifnullN (pc := 6) (tgt := 17) dX11_thingOfLetter_6 (by decide) ?_
    refine wp_aload_n (pc := 17) dX11_thingOfLetter_17 rfl rfl ?_
    refine wp_aload_n (pc := 18) dX11_thingOfLetter_18 rfl rfl ?_
    refine wc_VV (pc := 19) (μ2 := mX11_refuseSort) (rc := 0) (rs := 0) [_] dX11_thingOfLetter_19 rfl hR.bd rfl cv_X11_517_12 rfl ⟨(Nat.le_of_ble_eq_true rfl), (Nat.le_of_ble_eq_true rfl)⟩ (Nat.le_of_ble_eq_true rfl) (c_refuseSort l G hR hy h549) (fun r h q => ?_)
    obtain ⟨rfl, hR⟩ := q
    refine wp_goto (pc := 22) (tgt := 29) dX11_thingOfLetter_22 (by decide) ?_
    exact wp_iret (pc := 29) dX11_thingOfLetter_29 rfl ⟨_, rfl, by simp only [tolF, e, (by decide : ((0 : Int32) = 1) = False), (by decide : ((0 : Int32) = 2) = False), (by decide : ((0 : Int32) = 3) = False), (by decide : ((0 : Int32) = 4) = False), if_true, if_false, Bool.true_eq_false, Bool.false_eq_true, reduceIte, reduceCtorEq, Bool.not_true, Bool.not_false, true_and, and_true, and_false, false_and, or_true, true_or, or_false, false_or, not_true_eq_false, not_false_eq_true] <;> rfl, by simp only [tolF, e, (by decide : ((0 : Int32) = 1) = False), (by decide : ((0 : Int32) = 2) = False), (by decide : ((0 : Int32) = 3) = False), (by decide : ((0 : Int32) = 4) = False), if_true, if_false, Bool.true_eq_false, Bool.false_eq_true, reduceIte, reduceCtorEq, Bool.not_true, Bool.not_false, true_and, and_true, and_false, false_and, or_true, true_or, or_false, false_or, not_true_eq_false, not_false_eq_true] <;> first | exact hR | (simp only [e, (by decide : ((0 : Int32) = 1) = False), (by decide : ((0 : Int32) = 2) = False), (by decide : ((0 : Int32) = 3) = False), (by decide : ((0 : Int32) = 4) = False), if_true, if_false, Bool.true_eq_false, Bool.false_eq_true, reduceIte, reduceCtorEq, Bool.not_true, Bool.not_false, true_and, and_true, and_false, false_and, or_true, true_or, or_false, false_or, not_true_eq_false, not_false_eq_true] at hR; exact hR)⟩
  · refine wp_aload_n (pc := 0) dX11_thingOfLetter_0 rfl rfl ?_
    refine wp_get (pc := 1) dX11_thingOfLetter_1 fl_X11_337_9 (hR.tr1 hy e) rfl ?_
    refine wp_astore_nN (pc := 4) (lv' := [_, _, _, _]) dX11_thingOfLetter_4 rfl (Nat.le_of_ble_eq_true rfl) rfl rfl ?_
    refine wp_aload_nN (pc := 5) dX11_thingOfLetter_5 rfl rfl ?_
    refine wp_ifnullN (pc := 6) (tgt := 17) dX11_thingOfLetter_6 (by decide) ?_
    refine wp_aload_n (pc := 17) dX11_thingOfLetter_17 rfl rfl ?_
    refine wp_aload_n (pc := 18) dX11_thingOfLetter_18 rfl rfl ?_
    refine wc_VV (pc := 19) (μ2 := mX11_refuseSort) (rc := 0) (rs := 0) [_] dX11_thingOfLetter_19 rfl hR.bd rfl cv_X11_517_12 rfl ⟨(Nat.le_of_ble_eq_true rfl), (Nat.le_of_ble_eq_true rfl)⟩ (Nat.le_of_ble_eq_true rfl) (c_refuseSort l G hR hy h549) (fun r h q => ?_)
    obtain ⟨rfl, hR⟩ := q
    refine wp_goto (pc := 22) (tgt := 29) dX11_thingOfLetter_22 (by decide) ?_
    exact wp_iret (pc := 29) dX11_thingOfLetter_29 rfl ⟨_, rfl, by simp only [tolF, e, (by decide : ((1 : Int32) = 0) = False), (by decide : ((1 : Int32) = 2) = False), (by decide : ((1 : Int32) = 3) = False), (by decide : ((1 : Int32) = 4) = False), if_true, if_false, Bool.true_eq_false, Bool.false_eq_true, reduceIte, reduceCtorEq, Bool.not_true, Bool.not_false, true_and, and_true, and_false, false_and, or_true, true_or, or_false, false_or, not_true_eq_false, not_false_eq_true] <;> rfl, by simp only [tolF, e, (by decide : ((1 : Int32) = 0) = False), (by decide : ((1 : Int32) = 2) = False), (by decide : ((1 : Int32) = 3) = False), (by decide : ((1 : Int32) = 4) = False), if_true, if_false, Bool.true_eq_false, Bool.false_eq_true, reduceIte, reduceCtorEq, Bool.not_true, Bool.not_false, true_and, and_true, and_false, false_and, or_true, true_or, or_false, false_or, not_true_eq_false, not_false_eq_true] <;> first | exact hR | (simp only [e, (by decide : ((1 : Int32) = 0) = False), (by decide : ((1 : Int32) = 2) = False), (by decide : ((1 : Int32) = 3) = False), (by decide : ((1 : Int32) = 4) = False), if_true, if_false, Bool.true_eq_false, Bool.false_eq_true, reduceIte, reduceCtorEq, Bool.not_true, Bool.not_false, true_and, and_true, and_false, false_and, or_true, true_or, or_false, false_or, not_true_eq_false, not_false_eq_true] at hR; exact hR)⟩
  · refine wp_aload_n (pc := 0) dX11_thingOfLetter_0 rfl rfl ?_
    refine wp_get (pc := 1) dX11_thingOfLetter_1 fl_X11_337_9 (hR.tr2 hy e) rfl ?_
    refine wp_astore_n (pc := 4) (lv' := [_, _, _, _]) dX11_thingOfLetter_4 rfl (Nat.le_of_ble_eq_true rfl) rfl rfl ?_
    refine wp_aload_n (pc := 5) dX11_thingOfLetter_5 rfl rfl ?_
    refine wp_ifnullR (pc := 6) dX11_thingOfLetter_6 ?_
    refine wp_aload_n (pc := 9) dX11_thingOfLetter_9 rfl rfl ?_
    refine wc_VP (pc := 10) (μ2 := mX2_isToKeeper) (rc := 0) (rs := 0) [] dX11_thingOfLetter_10 rfl (hR.lt (ht2 e)) rfl cv_X11_212_3 rfl ⟨(Nat.le_of_ble_eq_true rfl), (Nat.le_of_ble_eq_true rfl)⟩ (Nat.le_of_ble_eq_true rfl) (c_isToKeeper l G hR (ht2 e)) ?_
    refine wp_iload_n (pc := 13) dX11_thingOfLetter_13 rfl rfl ?_
    refine wp_icmp_eq (pc := 14) (tgt := 25) dX11_thingOfLetter_14 (by decide) (fun c14 => ?_) (fun c14 => ?_)
    · have c15 := (tok_i hbb).mp c14
      refine wp_aload_n (pc := 25) dX11_thingOfLetter_25 rfl rfl ?_
      refine wp_get (pc := 26) dX11_thingOfLetter_26 fl_X11_230_3 (hR.lt (ht2 e)) rfl ?_
      exact wp_iret (pc := 29) dX11_thingOfLetter_29 rfl ⟨_, rfl, by simp only [tolF, e, (by decide : ((2 : Int32) = 0) = False), (by decide : ((2 : Int32) = 1) = False), (by decide : ((2 : Int32) = 3) = False), (by decide : ((2 : Int32) = 4) = False), eq_true c15, if_true, if_false, Bool.true_eq_false, Bool.false_eq_true, reduceIte, reduceCtorEq, Bool.not_true, Bool.not_false, true_and, and_true, and_false, false_and, or_true, true_or, or_false, false_or, not_true_eq_false, not_false_eq_true] <;> rfl, by simp only [tolF, e, (by decide : ((2 : Int32) = 0) = False), (by decide : ((2 : Int32) = 1) = False), (by decide : ((2 : Int32) = 3) = False), (by decide : ((2 : Int32) = 4) = False), eq_true c15, if_true, if_false, Bool.true_eq_false, Bool.false_eq_true, reduceIte, reduceCtorEq, Bool.not_true, Bool.not_false, true_and, and_true, and_false, false_and, or_true, true_or, or_false, false_or, not_true_eq_false, not_false_eq_true] <;> first | exact hR | (simp only [e, (by decide : ((2 : Int32) = 0) = False), (by decide : ((2 : Int32) = 1) = False), (by decide : ((2 : Int32) = 3) = False), (by decide : ((2 : Int32) = 4) = False), if_true, if_false, Bool.true_eq_false, Bool.false_eq_true, reduceIte, reduceCtorEq, Bool.not_true, Bool.not_false, true_and, and_true, and_false, false_and, or_true, true_or, or_false, false_or, not_true_eq_false, not_false_eq_true] at hR; exact hR)⟩
    · have c15 := fun z => c14 ((tok_i hbb).mpr z)
      refine wp_aload_n (pc := 17) dX11_thingOfLetter_17 rfl rfl ?_
      refine wp_aload_n (pc := 18) dX11_thingOfLetter_18 rfl rfl ?_
      refine wc_VV (pc := 19) (μ2 := mX11_refuseSort) (rc := 0) (rs := 0) [_] dX11_thingOfLetter_19 rfl hR.bd rfl cv_X11_517_12 rfl ⟨(Nat.le_of_ble_eq_true rfl), (Nat.le_of_ble_eq_true rfl)⟩ (Nat.le_of_ble_eq_true rfl) (c_refuseSort l G hR hy h549) (fun r h q => ?_)
      obtain ⟨rfl, hR⟩ := q
      refine wp_goto (pc := 22) (tgt := 29) dX11_thingOfLetter_22 (by decide) ?_
      exact wp_iret (pc := 29) dX11_thingOfLetter_29 rfl ⟨_, rfl, by simp only [tolF, e, (by decide : ((2 : Int32) = 0) = False), (by decide : ((2 : Int32) = 1) = False), (by decide : ((2 : Int32) = 3) = False), (by decide : ((2 : Int32) = 4) = False), eq_false c15, if_true, if_false, Bool.true_eq_false, Bool.false_eq_true, reduceIte, reduceCtorEq, Bool.not_true, Bool.not_false, true_and, and_true, and_false, false_and, or_true, true_or, or_false, false_or, not_true_eq_false, not_false_eq_true] <;> rfl, by simp only [tolF, e, (by decide : ((2 : Int32) = 0) = False), (by decide : ((2 : Int32) = 1) = False), (by decide : ((2 : Int32) = 3) = False), (by decide : ((2 : Int32) = 4) = False), eq_false c15, if_true, if_false, Bool.true_eq_false, Bool.false_eq_true, reduceIte, reduceCtorEq, Bool.not_true, Bool.not_false, true_and, and_true, and_false, false_and, or_true, true_or, or_false, false_or, not_true_eq_false, not_false_eq_true] <;> first | exact hR | (simp only [e, (by decide : ((2 : Int32) = 0) = False), (by decide : ((2 : Int32) = 1) = False), (by decide : ((2 : Int32) = 3) = False), (by decide : ((2 : Int32) = 4) = False), if_true, if_false, Bool.true_eq_false, Bool.false_eq_true, reduceIte, reduceCtorEq, Bool.not_true, Bool.not_false, true_and, and_true, and_false, false_and, or_true, true_or, or_false, false_or, not_true_eq_false, not_false_eq_true] at hR; exact hR)⟩
  · refine wp_aload_n (pc := 0) dX11_thingOfLetter_0 rfl rfl ?_
    refine wp_get (pc := 1) dX11_thingOfLetter_1 fl_X11_337_9 (hR.tr3 hy e) rfl ?_
    refine wp_astore_nN (pc := 4) (lv' := [_, _, _, _]) dX11_thingOfLetter_4 rfl (Nat.le_of_ble_eq_true rfl) rfl rfl ?_
    refine wp_aload_nN (pc := 5) dX11_thingOfLetter_5 rfl rfl ?_
    refine wp_ifnullN (pc := 6) (tgt := 17) dX11_thingOfLetter_6 (by decide) ?_
    refine wp_aload_n (pc := 17) dX11_thingOfLetter_17 rfl rfl ?_
    refine wp_aload_n (pc := 18) dX11_thingOfLetter_18 rfl rfl ?_
    refine wc_VV (pc := 19) (μ2 := mX11_refuseSort) (rc := 0) (rs := 0) [_] dX11_thingOfLetter_19 rfl hR.bd rfl cv_X11_517_12 rfl ⟨(Nat.le_of_ble_eq_true rfl), (Nat.le_of_ble_eq_true rfl)⟩ (Nat.le_of_ble_eq_true rfl) (c_refuseSort l G hR hy h549) (fun r h q => ?_)
    obtain ⟨rfl, hR⟩ := q
    refine wp_goto (pc := 22) (tgt := 29) dX11_thingOfLetter_22 (by decide) ?_
    exact wp_iret (pc := 29) dX11_thingOfLetter_29 rfl ⟨_, rfl, by simp only [tolF, e, (by decide : ((3 : Int32) = 0) = False), (by decide : ((3 : Int32) = 1) = False), (by decide : ((3 : Int32) = 2) = False), (by decide : ((3 : Int32) = 4) = False), if_true, if_false, Bool.true_eq_false, Bool.false_eq_true, reduceIte, reduceCtorEq, Bool.not_true, Bool.not_false, true_and, and_true, and_false, false_and, or_true, true_or, or_false, false_or, not_true_eq_false, not_false_eq_true] <;> rfl, by simp only [tolF, e, (by decide : ((3 : Int32) = 0) = False), (by decide : ((3 : Int32) = 1) = False), (by decide : ((3 : Int32) = 2) = False), (by decide : ((3 : Int32) = 4) = False), if_true, if_false, Bool.true_eq_false, Bool.false_eq_true, reduceIte, reduceCtorEq, Bool.not_true, Bool.not_false, true_and, and_true, and_false, false_and, or_true, true_or, or_false, false_or, not_true_eq_false, not_false_eq_true] <;> first | exact hR | (simp only [e, (by decide : ((3 : Int32) = 0) = False), (by decide : ((3 : Int32) = 1) = False), (by decide : ((3 : Int32) = 2) = False), (by decide : ((3 : Int32) = 4) = False), if_true, if_false, Bool.true_eq_false, Bool.false_eq_true, reduceIte, reduceCtorEq, Bool.not_true, Bool.not_false, true_and, and_true, and_false, false_and, or_true, true_or, or_false, false_or, not_true_eq_false, not_false_eq_true] at hR; exact hR)⟩
  · refine wp_aload_n (pc := 0) dX11_thingOfLetter_0 rfl rfl ?_
    refine wp_get (pc := 1) dX11_thingOfLetter_1 fl_X11_337_9 (hR.tr4 hy e) rfl ?_
    refine wp_astore_nN (pc := 4) (lv' := [_, _, _, _]) dX11_thingOfLetter_4 rfl (Nat.le_of_ble_eq_true rfl) rfl rfl ?_
    refine wp_aload_nN (pc := 5) dX11_thingOfLetter_5 rfl rfl ?_
    refine wp_ifnullN (pc := 6) (tgt := 17) dX11_thingOfLetter_6 (by decide) ?_
    refine wp_aload_n (pc := 17) dX11_thingOfLetter_17 rfl rfl ?_
    refine wp_aload_n (pc := 18) dX11_thingOfLetter_18 rfl rfl ?_
    refine wc_VV (pc := 19) (μ2 := mX11_refuseSort) (rc := 0) (rs := 0) [_] dX11_thingOfLetter_19 rfl hR.bd rfl cv_X11_517_12 rfl ⟨(Nat.le_of_ble_eq_true rfl), (Nat.le_of_ble_eq_true rfl)⟩ (Nat.le_of_ble_eq_true rfl) (c_refuseSort l G hR hy h549) (fun r h q => ?_)
    obtain ⟨rfl, hR⟩ := q
    refine wp_goto (pc := 22) (tgt := 29) dX11_thingOfLetter_22 (by decide) ?_
    exact wp_iret (pc := 29) dX11_thingOfLetter_29 rfl ⟨_, rfl, by simp only [tolF, e, (by decide : ((4 : Int32) = 0) = False), (by decide : ((4 : Int32) = 1) = False), (by decide : ((4 : Int32) = 2) = False), (by decide : ((4 : Int32) = 3) = False), if_true, if_false, Bool.true_eq_false, Bool.false_eq_true, reduceIte, reduceCtorEq, Bool.not_true, Bool.not_false, true_and, and_true, and_false, false_and, or_true, true_or, or_false, false_or, not_true_eq_false, not_false_eq_true] <;> rfl, by simp only [tolF, e, (by decide : ((4 : Int32) = 0) = False), (by decide : ((4 : Int32) = 1) = False), (by decide : ((4 : Int32) = 2) = False), (by decide : ((4 : Int32) = 3) = False), if_true, if_false, Bool.true_eq_false, Bool.false_eq_true, reduceIte, reduceCtorEq, Bool.not_true, Bool.not_false, true_and, and_true, and_false, false_and, or_true, true_or, or_false, false_or, not_true_eq_false, not_false_eq_true] <;> first | exact hR | (simp only [e, (by decide : ((4 : Int32) = 0) = False), (by decide : ((4 : Int32) = 1) = False), (by decide : ((4 : Int32) = 2) = False), (by decide : ((4 : Int32) = 3) = False), if_true, if_false, Bool.true_eq_false, Bool.false_eq_true, reduceIte, reduceCtorEq, Bool.not_true, Bool.not_false, true_and, and_true, and_false, false_and, or_true, true_or, or_false, false_or, not_true_eq_false, not_false_eq_true] at hR; exact hR)⟩
theorem c_nat {y : Nat} (n : Int32) (hR : RH G hp A M h) (hy : y < 6) (h54 : t54 M y) (ht1 : M.2.1 54 y = 1 → nx (M.2.1 55 y) < nx (M.1 11)) (ht2 : M.2.1 54 y = 2 → nx (M.2.1 55 y) < nx (M.1 35)) (hz : M.2.1 56 y = nI (nx (M.2.1 56 y))) (hz2 : nx (M.2.1 56 y) ≤ 20) (h01 : M.2.1 54 y = 4 → ∀ q, q < nx (M.2.1 56 y) → M.2.2 57 (20 * y + q) = 0 ∨ M.2.2 57 (20 * y + q) = 1) : SpV l G mX11_numberAt (.ref (A.1 0 0) :: .ref (A.1 16 y) :: [.int n]) h (fun r h' => r = .int (arwF M y 3 n).1 ∧ RH G hp A (arwF M y 3 n).2 h') := by
  refine Sp.intro (lv := [_, _, _, _]) (by decide) rfl (Nat.le_of_ble_eq_true rfl) ?_
  refine wp_widen (rc' := 0) (rs' := 0) (Nat.le_refl _) (Nat.le_refl _) ?_
  have h549 := h54
  rcases h54 with e | e | e | e | e
  · refine wp_aload_n (pc := 0) dX11_numberAt_0 rfl rfl ?_
    refine wp_get (pc := 1) dX11_numberAt_1 fl_X11_345_9 (hR.tr0 hy e) rfl ?_
    refine wp_astore_nN (pc := 4) (lv' := [_, _, _, _]) dX11_numberAt_4 rfl (Nat.le_of_ble_eq_true rfl) rfl rfl ?_
    refine wp_aload_nN (pc := 5) dX11_numberAt_5 rfl rfl ?_
    refine wp_ifnonnullN (pc := 6) dX11_numberAt_6 ?_
    refine wp_aload_n (pc := 9) dX11_numberAt_9 rfl rfl ?_
    refine wp_aload_n (pc := 10) dX11_numberAt_10 rfl rfl ?_
    refine wc_VV (pc := 11) (μ2 := mX11_refuseSort) (rc := 0) (rs := 0) [_] dX11_numberAt_11 rfl hR.bd rfl cv_X11_517_12 rfl ⟨(Nat.le_of_ble_eq_true rfl), (Nat.le_of_ble_eq_true rfl)⟩ (Nat.le_of_ble_eq_true rfl) (c_refuseSort l G hR hy h549) (fun r h q => ?_)
    obtain ⟨rfl, hR⟩ := q
    exact wp_iret (pc := 14) dX11_numberAt_14 rfl ⟨_, rfl, by simp only [arwF, e, (by decide : ((0 : Int32) = 1) = False), (by decide : ((0 : Int32) = 2) = False), (by decide : ((0 : Int32) = 3) = False), (by decide : ((0 : Int32) = 4) = False), if_true, if_false, Bool.true_eq_false, Bool.false_eq_true, reduceIte, reduceCtorEq, Bool.not_true, Bool.not_false, true_and, and_true, and_false, false_and, or_true, true_or, or_false, false_or, not_true_eq_false, not_false_eq_true] <;> rfl, by simp only [arwF, e, (by decide : ((0 : Int32) = 1) = False), (by decide : ((0 : Int32) = 2) = False), (by decide : ((0 : Int32) = 3) = False), (by decide : ((0 : Int32) = 4) = False), if_true, if_false, Bool.true_eq_false, Bool.false_eq_true, reduceIte, reduceCtorEq, Bool.not_true, Bool.not_false, true_and, and_true, and_false, false_and, or_true, true_or, or_false, false_or, not_true_eq_false, not_false_eq_true] <;> first | exact hR | (simp only [e, (by decide : ((0 : Int32) = 1) = False), (by decide : ((0 : Int32) = 2) = False), (by decide : ((0 : Int32) = 3) = False), (by decide : ((0 : Int32) = 4) = False), if_true, if_false, Bool.true_eq_false, Bool.false_eq_true, reduceIte, reduceCtorEq, Bool.not_true, Bool.not_false, true_and, and_true, and_false, false_and, or_true, true_or, or_false, false_or, not_true_eq_false, not_false_eq_true] at hR; exact hR)⟩
  · refine wp_aload_n (pc := 0) dX11_numberAt_0 rfl rfl ?_
    refine wp_get (pc := 1) dX11_numberAt_1 fl_X11_345_9 (hR.tr1 hy e) rfl ?_
    refine wp_astore_nN (pc := 4) (lv' := [_, _, _, _]) dX11_numberAt_4 rfl (Nat.le_of_ble_eq_true rfl) rfl rfl ?_
    refine wp_aload_nN (pc := 5) dX11_numberAt_5 rfl rfl ?_
    refine wp_ifnonnullN (pc := 6) dX11_numberAt_6 ?_
    refine wp_aload_n (pc := 9) dX11_numberAt_9 rfl rfl ?_
    refine wp_aload_n (pc := 10) dX11_numberAt_10 rfl rfl ?_
    refine wc_VV (pc := 11) (μ2 := mX11_refuseSort) (rc := 0) (rs := 0) [_] dX11_numberAt_11 rfl hR.bd rfl cv_X11_517_12 rfl ⟨(Nat.le_of_ble_eq_true rfl), (Nat.le_of_ble_eq_true rfl)⟩ (Nat.le_of_ble_eq_true rfl) (c_refuseSort l G hR hy h549) (fun r h q => ?_)
    obtain ⟨rfl, hR⟩ := q
    exact wp_iret (pc := 14) dX11_numberAt_14 rfl ⟨_, rfl, by simp only [arwF, e, (by decide : ((1 : Int32) = 0) = False), (by decide : ((1 : Int32) = 2) = False), (by decide : ((1 : Int32) = 3) = False), (by decide : ((1 : Int32) = 4) = False), if_true, if_false, Bool.true_eq_false, Bool.false_eq_true, reduceIte, reduceCtorEq, Bool.not_true, Bool.not_false, true_and, and_true, and_false, false_and, or_true, true_or, or_false, false_or, not_true_eq_false, not_false_eq_true] <;> rfl, by simp only [arwF, e, (by decide : ((1 : Int32) = 0) = False), (by decide : ((1 : Int32) = 2) = False), (by decide : ((1 : Int32) = 3) = False), (by decide : ((1 : Int32) = 4) = False), if_true, if_false, Bool.true_eq_false, Bool.false_eq_true, reduceIte, reduceCtorEq, Bool.not_true, Bool.not_false, true_and, and_true, and_false, false_and, or_true, true_or, or_false, false_or, not_true_eq_false, not_false_eq_true] <;> first | exact hR | (simp only [e, (by decide : ((1 : Int32) = 0) = False), (by decide : ((1 : Int32) = 2) = False), (by decide : ((1 : Int32) = 3) = False), (by decide : ((1 : Int32) = 4) = False), if_true, if_false, Bool.true_eq_false, Bool.false_eq_true, reduceIte, reduceCtorEq, Bool.not_true, Bool.not_false, true_and, and_true, and_false, false_and, or_true, true_or, or_false, false_or, not_true_eq_false, not_false_eq_true] at hR; exact hR)⟩
  · refine wp_aload_n (pc := 0) dX11_numberAt_0 rfl rfl ?_
    refine wp_get (pc := 1) dX11_numberAt_1 fl_X11_345_9 (hR.tr2 hy e) rfl ?_
    refine wp_astore_nN (pc := 4) (lv' := [_, _, _, _]) dX11_numberAt_4 rfl (Nat.le_of_ble_eq_true rfl) rfl rfl ?_
    refine wp_aload_nN (pc := 5) dX11_numberAt_5 rfl rfl ?_
    refine wp_ifnonnullN (pc := 6) dX11_numberAt_6 ?_
    refine wp_aload_n (pc := 9) dX11_numberAt_9 rfl rfl ?_
    refine wp_aload_n (pc := 10) dX11_numberAt_10 rfl rfl ?_
    refine wc_VV (pc := 11) (μ2 := mX11_refuseSort) (rc := 0) (rs := 0) [_] dX11_numberAt_11 rfl hR.bd rfl cv_X11_517_12 rfl ⟨(Nat.le_of_ble_eq_true rfl), (Nat.le_of_ble_eq_true rfl)⟩ (Nat.le_of_ble_eq_true rfl) (c_refuseSort l G hR hy h549) (fun r h q => ?_)
    obtain ⟨rfl, hR⟩ := q
    exact wp_iret (pc := 14) dX11_numberAt_14 rfl ⟨_, rfl, by simp only [arwF, e, (by decide : ((2 : Int32) = 0) = False), (by decide : ((2 : Int32) = 1) = False), (by decide : ((2 : Int32) = 3) = False), (by decide : ((2 : Int32) = 4) = False), if_true, if_false, Bool.true_eq_false, Bool.false_eq_true, reduceIte, reduceCtorEq, Bool.not_true, Bool.not_false, true_and, and_true, and_false, false_and, or_true, true_or, or_false, false_or, not_true_eq_false, not_false_eq_true] <;> rfl, by simp only [arwF, e, (by decide : ((2 : Int32) = 0) = False), (by decide : ((2 : Int32) = 1) = False), (by decide : ((2 : Int32) = 3) = False), (by decide : ((2 : Int32) = 4) = False), if_true, if_false, Bool.true_eq_false, Bool.false_eq_true, reduceIte, reduceCtorEq, Bool.not_true, Bool.not_false, true_and, and_true, and_false, false_and, or_true, true_or, or_false, false_or, not_true_eq_false, not_false_eq_true] <;> first | exact hR | (simp only [e, (by decide : ((2 : Int32) = 0) = False), (by decide : ((2 : Int32) = 1) = False), (by decide : ((2 : Int32) = 3) = False), (by decide : ((2 : Int32) = 4) = False), if_true, if_false, Bool.true_eq_false, Bool.false_eq_true, reduceIte, reduceCtorEq, Bool.not_true, Bool.not_false, true_and, and_true, and_false, false_and, or_true, true_or, or_false, false_or, not_true_eq_false, not_false_eq_true] at hR; exact hR)⟩
  · refine wp_aload_n (pc := 0) dX11_numberAt_0 rfl rfl ?_
    refine wp_get (pc := 1) dX11_numberAt_1 fl_X11_345_9 (hR.tr3 hy e) rfl ?_
    refine wp_astore_n (pc := 4) (lv' := [_, _, _, _]) dX11_numberAt_4 rfl (Nat.le_of_ble_eq_true rfl) rfl rfl ?_
    refine wp_aload_n (pc := 5) dX11_numberAt_5 rfl rfl ?_
    refine wp_ifnonnullR (pc := 6) (tgt := 15) dX11_numberAt_6 (by decide) ?_
    refine wp_iload_n (pc := 15) dX11_numberAt_15 rfl rfl ?_
    refine wp_iconst (pc := 16) (v := 0) dX11_numberAt_16 (by decide) ?_
    refine wp_aload_n (pc := 17) dX11_numberAt_17 rfl rfl ?_
    refine wp_alen (k := 1) (pc := 18) (by decide) dX11_numberAt_18 (hR.row3 hy e) ?_
    refine wp_iconst (pc := 19) (v := 1) dX11_numberAt_19 (by decide) ?_
    refine wp_isub (pc := 20) dX11_numberAt_20 ?_
    refine wc_SP (pc := 21) (μ2 := mX11_isWithin) (rc := 0) (rs := 0) [_, _, _] dX11_numberAt_21 rfl cs_X11_103 rfl ⟨(Nat.le_of_ble_eq_true rfl), (Nat.le_of_ble_eq_true rfl)⟩ (Nat.le_of_ble_eq_true rfl) (c_isWithin l G _ _ _ _) ?_
    refine wp_ifB_eq (pc := 24) (tgt := 34) dX11_numberAt_24 (by decide) (fun c24 => ?_) (fun c24 => ?_)
    · rw [fin_ix n (by omega)] at c24
      refine wp_aload_n (pc := 34) dX11_numberAt_34 rfl rfl ?_
      refine wp_bipush (pc := 35) (v := 12) dX11_numberAt_35 (by decide) ?_
      refine wc_VV (pc := 37) (μ2 := mX11_refuse) (rc := 0) (rs := 0) [_] dX11_numberAt_37 rfl hR.bd rfl cv_X11_328_12 rfl ⟨(Nat.le_of_ble_eq_true rfl), (Nat.le_of_ble_eq_true rfl)⟩ (Nat.le_of_ble_eq_true rfl) (c_refuse l G _ hR) (fun r h q => ?_)
      obtain ⟨rfl, hR⟩ := q
      exact wp_iret (pc := 40) dX11_numberAt_40 rfl ⟨_, rfl, by simp only [arwF, e, (by decide : ((3 : Int32) = 0) = False), (by decide : ((3 : Int32) = 1) = False), (by decide : ((3 : Int32) = 2) = False), (by decide : ((3 : Int32) = 4) = False), c24, if_true, if_false, Bool.true_eq_false, Bool.false_eq_true, reduceIte, reduceCtorEq, Bool.not_true, Bool.not_false, true_and, and_true, and_false, false_and, or_true, true_or, or_false, false_or, not_true_eq_false, not_false_eq_true], by simp only [arwF, e, (by decide : ((3 : Int32) = 0) = False), (by decide : ((3 : Int32) = 1) = False), (by decide : ((3 : Int32) = 2) = False), (by decide : ((3 : Int32) = 4) = False), c24, if_true, if_false, Bool.true_eq_false, Bool.false_eq_true, reduceIte, reduceCtorEq, Bool.not_true, Bool.not_false, true_and, and_true, and_false, false_and, or_true, true_or, or_false, false_or, not_true_eq_false, not_false_eq_true] <;> exact hR⟩
    · rw [fin_ix n (by omega)] at c24
      obtain ⟨q, hq, rfl⟩ := isIx_t c24 (by omega)
      have nq : nx (nI q) = q := nx_nI (by omega)
      refine wp_aload_n (pc := 27) dX11_numberAt_27 rfl rfl ?_
      refine wp_iload_n (pc := 28) dX11_numberAt_28 rfl rfl ?_
      refine wp_lald (pc := 29) (i := q) dX11_numberAt_29 (hR.row3 hy e) ⟨rfl, by omega, by omega⟩ ?_
      rw [if_pos (show q < nx (M.2.1 56 y) by omega)]
      refine wp_l2i (pc := 30) dX11_numberAt_30 ?_
      refine wp_goto (pc := 31) (tgt := 40) dX11_numberAt_31 (by decide) ?_
      exact wp_iret (pc := 40) dX11_numberAt_40 rfl ⟨_, rfl, by simp only [arwF, e, (by decide : ((3 : Int32) = 0) = False), (by decide : ((3 : Int32) = 1) = False), (by decide : ((3 : Int32) = 2) = False), (by decide : ((3 : Int32) = 4) = False), c24, nq, if_true, if_false, Bool.true_eq_false, Bool.false_eq_true, reduceIte, reduceCtorEq, Bool.not_true, Bool.not_false, true_and, and_true, and_false, false_and, or_true, true_or, or_false, false_or, not_true_eq_false, not_false_eq_true], by simp only [arwF, e, (by decide : ((3 : Int32) = 0) = False), (by decide : ((3 : Int32) = 1) = False), (by decide : ((3 : Int32) = 2) = False), (by decide : ((3 : Int32) = 4) = False), c24, nq, if_true, if_false, Bool.true_eq_false, Bool.false_eq_true, reduceIte, reduceCtorEq, Bool.not_true, Bool.not_false, true_and, and_true, and_false, false_and, or_true, true_or, or_false, false_or, not_true_eq_false, not_false_eq_true] <;> exact hR⟩
  · refine wp_aload_n (pc := 0) dX11_numberAt_0 rfl rfl ?_
    refine wp_get (pc := 1) dX11_numberAt_1 fl_X11_345_9 (hR.tr4 hy e) rfl ?_
    refine wp_astore_nN (pc := 4) (lv' := [_, _, _, _]) dX11_numberAt_4 rfl (Nat.le_of_ble_eq_true rfl) rfl rfl ?_
    refine wp_aload_nN (pc := 5) dX11_numberAt_5 rfl rfl ?_
    refine wp_ifnonnullN (pc := 6) dX11_numberAt_6 ?_
    refine wp_aload_n (pc := 9) dX11_numberAt_9 rfl rfl ?_
    refine wp_aload_n (pc := 10) dX11_numberAt_10 rfl rfl ?_
    refine wc_VV (pc := 11) (μ2 := mX11_refuseSort) (rc := 0) (rs := 0) [_] dX11_numberAt_11 rfl hR.bd rfl cv_X11_517_12 rfl ⟨(Nat.le_of_ble_eq_true rfl), (Nat.le_of_ble_eq_true rfl)⟩ (Nat.le_of_ble_eq_true rfl) (c_refuseSort l G hR hy h549) (fun r h q => ?_)
    obtain ⟨rfl, hR⟩ := q
    exact wp_iret (pc := 14) dX11_numberAt_14 rfl ⟨_, rfl, by simp only [arwF, e, (by decide : ((4 : Int32) = 0) = False), (by decide : ((4 : Int32) = 1) = False), (by decide : ((4 : Int32) = 2) = False), (by decide : ((4 : Int32) = 3) = False), if_true, if_false, Bool.true_eq_false, Bool.false_eq_true, reduceIte, reduceCtorEq, Bool.not_true, Bool.not_false, true_and, and_true, and_false, false_and, or_true, true_or, or_false, false_or, not_true_eq_false, not_false_eq_true] <;> rfl, by simp only [arwF, e, (by decide : ((4 : Int32) = 0) = False), (by decide : ((4 : Int32) = 1) = False), (by decide : ((4 : Int32) = 2) = False), (by decide : ((4 : Int32) = 3) = False), if_true, if_false, Bool.true_eq_false, Bool.false_eq_true, reduceIte, reduceCtorEq, Bool.not_true, Bool.not_false, true_and, and_true, and_false, false_and, or_true, true_or, or_false, false_or, not_true_eq_false, not_false_eq_true] <;> first | exact hR | (simp only [e, (by decide : ((4 : Int32) = 0) = False), (by decide : ((4 : Int32) = 1) = False), (by decide : ((4 : Int32) = 2) = False), (by decide : ((4 : Int32) = 3) = False), if_true, if_false, Bool.true_eq_false, Bool.false_eq_true, reduceIte, reduceCtorEq, Bool.not_true, Bool.not_false, true_and, and_true, and_false, false_and, or_true, true_or, or_false, false_or, not_true_eq_false, not_false_eq_true] at hR; exact hR)⟩
theorem c_tat {y : Nat} (n : Int32) (hR : RH G hp A M h) (hy : y < 6) (h54 : t54 M y) (ht1 : M.2.1 54 y = 1 → nx (M.2.1 55 y) < nx (M.1 11)) (ht2 : M.2.1 54 y = 2 → nx (M.2.1 55 y) < nx (M.1 35)) (hz : M.2.1 56 y = nI (nx (M.2.1 56 y))) (hz2 : nx (M.2.1 56 y) ≤ 20) (h01 : M.2.1 54 y = 4 → ∀ q, q < nx (M.2.1 56 y) → M.2.2 57 (20 * y + q) = 0 ∨ M.2.2 57 (20 * y + q) = 1) : SpV l G mX11_truthAt (.ref (A.1 0 0) :: .ref (A.1 16 y) :: [.int n]) h (fun r h' => r = .int (arwF M y 4 n).1 ∧ RH G hp A (arwF M y 4 n).2 h') := by
  refine Sp.intro (lv := [_, _, _, _]) (by decide) rfl (Nat.le_of_ble_eq_true rfl) ?_
  refine wp_widen (rc' := 0) (rs' := 0) (Nat.le_refl _) (Nat.le_refl _) ?_
  have h549 := h54
  rcases h54 with e | e | e | e | e
  · refine wp_aload_n (pc := 0) dX11_truthAt_0 rfl rfl ?_
    refine wp_get (pc := 1) dX11_truthAt_1 fl_X11_353_9 (hR.tr0 hy e) rfl ?_
    refine wp_astore_nN (pc := 4) (lv' := [_, _, _, _]) dX11_truthAt_4 rfl (Nat.le_of_ble_eq_true rfl) rfl rfl ?_
    refine wp_aload_nN (pc := 5) dX11_truthAt_5 rfl rfl ?_
    refine wp_ifnonnullN (pc := 6) dX11_truthAt_6 ?_
    refine wp_aload_n (pc := 9) dX11_truthAt_9 rfl rfl ?_
    refine wp_aload_n (pc := 10) dX11_truthAt_10 rfl rfl ?_
    refine wc_VV (pc := 11) (μ2 := mX11_refuseSort) (rc := 0) (rs := 0) [_] dX11_truthAt_11 rfl hR.bd rfl cv_X11_517_12 rfl ⟨(Nat.le_of_ble_eq_true rfl), (Nat.le_of_ble_eq_true rfl)⟩ (Nat.le_of_ble_eq_true rfl) (c_refuseSort l G hR hy h549) (fun r h q => ?_)
    obtain ⟨rfl, hR⟩ := q
    exact wp_iret (pc := 14) dX11_truthAt_14 rfl ⟨_, rfl, by simp only [arwF, e, (by decide : ((0 : Int32) = 1) = False), (by decide : ((0 : Int32) = 2) = False), (by decide : ((0 : Int32) = 3) = False), (by decide : ((0 : Int32) = 4) = False), if_true, if_false, Bool.true_eq_false, Bool.false_eq_true, reduceIte, reduceCtorEq, Bool.not_true, Bool.not_false, true_and, and_true, and_false, false_and, or_true, true_or, or_false, false_or, not_true_eq_false, not_false_eq_true] <;> rfl, by simp only [arwF, e, (by decide : ((0 : Int32) = 1) = False), (by decide : ((0 : Int32) = 2) = False), (by decide : ((0 : Int32) = 3) = False), (by decide : ((0 : Int32) = 4) = False), if_true, if_false, Bool.true_eq_false, Bool.false_eq_true, reduceIte, reduceCtorEq, Bool.not_true, Bool.not_false, true_and, and_true, and_false, false_and, or_true, true_or, or_false, false_or, not_true_eq_false, not_false_eq_true] <;> first | exact hR | (simp only [e, (by decide : ((0 : Int32) = 1) = False), (by decide : ((0 : Int32) = 2) = False), (by decide : ((0 : Int32) = 3) = False), (by decide : ((0 : Int32) = 4) = False), if_true, if_false, Bool.true_eq_false, Bool.false_eq_true, reduceIte, reduceCtorEq, Bool.not_true, Bool.not_false, true_and, and_true, and_false, false_and, or_true, true_or, or_false, false_or, not_true_eq_false, not_false_eq_true] at hR; exact hR)⟩
  · refine wp_aload_n (pc := 0) dX11_truthAt_0 rfl rfl ?_
    refine wp_get (pc := 1) dX11_truthAt_1 fl_X11_353_9 (hR.tr1 hy e) rfl ?_
    refine wp_astore_nN (pc := 4) (lv' := [_, _, _, _]) dX11_truthAt_4 rfl (Nat.le_of_ble_eq_true rfl) rfl rfl ?_
    refine wp_aload_nN (pc := 5) dX11_truthAt_5 rfl rfl ?_
    refine wp_ifnonnullN (pc := 6) dX11_truthAt_6 ?_
    refine wp_aload_n (pc := 9) dX11_truthAt_9 rfl rfl ?_
    refine wp_aload_n (pc := 10) dX11_truthAt_10 rfl rfl ?_
    refine wc_VV (pc := 11) (μ2 := mX11_refuseSort) (rc := 0) (rs := 0) [_] dX11_truthAt_11 rfl hR.bd rfl cv_X11_517_12 rfl ⟨(Nat.le_of_ble_eq_true rfl), (Nat.le_of_ble_eq_true rfl)⟩ (Nat.le_of_ble_eq_true rfl) (c_refuseSort l G hR hy h549) (fun r h q => ?_)
    obtain ⟨rfl, hR⟩ := q
    exact wp_iret (pc := 14) dX11_truthAt_14 rfl ⟨_, rfl, by simp only [arwF, e, (by decide : ((1 : Int32) = 0) = False), (by decide : ((1 : Int32) = 2) = False), (by decide : ((1 : Int32) = 3) = False), (by decide : ((1 : Int32) = 4) = False), if_true, if_false, Bool.true_eq_false, Bool.false_eq_true, reduceIte, reduceCtorEq, Bool.not_true, Bool.not_false, true_and, and_true, and_false, false_and, or_true, true_or, or_false, false_or, not_true_eq_false, not_false_eq_true] <;> rfl, by simp only [arwF, e, (by decide : ((1 : Int32) = 0) = False), (by decide : ((1 : Int32) = 2) = False), (by decide : ((1 : Int32) = 3) = False), (by decide : ((1 : Int32) = 4) = False), if_true, if_false, Bool.true_eq_false, Bool.false_eq_true, reduceIte, reduceCtorEq, Bool.not_true, Bool.not_false, true_and, and_true, and_false, false_and, or_true, true_or, or_false, false_or, not_true_eq_false, not_false_eq_true] <;> first | exact hR | (simp only [e, (by decide : ((1 : Int32) = 0) = False), (by decide : ((1 : Int32) = 2) = False), (by decide : ((1 : Int32) = 3) = False), (by decide : ((1 : Int32) = 4) = False), if_true, if_false, Bool.true_eq_false, Bool.false_eq_true, reduceIte, reduceCtorEq, Bool.not_true, Bool.not_false, true_and, and_true, and_false, false_and, or_true, true_or, or_false, false_or, not_true_eq_false, not_false_eq_true] at hR; exact hR)⟩
  · refine wp_aload_n (pc := 0) dX11_truthAt_0 rfl rfl ?_
    refine wp_get (pc := 1) dX11_truthAt_1 fl_X11_353_9 (hR.tr2 hy e) rfl ?_
    refine wp_astore_nN (pc := 4) (lv' := [_, _, _, _]) dX11_truthAt_4 rfl (Nat.le_of_ble_eq_true rfl) rfl rfl ?_
    refine wp_aload_nN (pc := 5) dX11_truthAt_5 rfl rfl ?_
    refine wp_ifnonnullN (pc := 6) dX11_truthAt_6 ?_
    refine wp_aload_n (pc := 9) dX11_truthAt_9 rfl rfl ?_
    refine wp_aload_n (pc := 10) dX11_truthAt_10 rfl rfl ?_
    refine wc_VV (pc := 11) (μ2 := mX11_refuseSort) (rc := 0) (rs := 0) [_] dX11_truthAt_11 rfl hR.bd rfl cv_X11_517_12 rfl ⟨(Nat.le_of_ble_eq_true rfl), (Nat.le_of_ble_eq_true rfl)⟩ (Nat.le_of_ble_eq_true rfl) (c_refuseSort l G hR hy h549) (fun r h q => ?_)
    obtain ⟨rfl, hR⟩ := q
    exact wp_iret (pc := 14) dX11_truthAt_14 rfl ⟨_, rfl, by simp only [arwF, e, (by decide : ((2 : Int32) = 0) = False), (by decide : ((2 : Int32) = 1) = False), (by decide : ((2 : Int32) = 3) = False), (by decide : ((2 : Int32) = 4) = False), if_true, if_false, Bool.true_eq_false, Bool.false_eq_true, reduceIte, reduceCtorEq, Bool.not_true, Bool.not_false, true_and, and_true, and_false, false_and, or_true, true_or, or_false, false_or, not_true_eq_false, not_false_eq_true] <;> rfl, by simp only [arwF, e, (by decide : ((2 : Int32) = 0) = False), (by decide : ((2 : Int32) = 1) = False), (by decide : ((2 : Int32) = 3) = False), (by decide : ((2 : Int32) = 4) = False), if_true, if_false, Bool.true_eq_false, Bool.false_eq_true, reduceIte, reduceCtorEq, Bool.not_true, Bool.not_false, true_and, and_true, and_false, false_and, or_true, true_or, or_false, false_or, not_true_eq_false, not_false_eq_true] <;> first | exact hR | (simp only [e, (by decide : ((2 : Int32) = 0) = False), (by decide : ((2 : Int32) = 1) = False), (by decide : ((2 : Int32) = 3) = False), (by decide : ((2 : Int32) = 4) = False), if_true, if_false, Bool.true_eq_false, Bool.false_eq_true, reduceIte, reduceCtorEq, Bool.not_true, Bool.not_false, true_and, and_true, and_false, false_and, or_true, true_or, or_false, false_or, not_true_eq_false, not_false_eq_true] at hR; exact hR)⟩
  · refine wp_aload_n (pc := 0) dX11_truthAt_0 rfl rfl ?_
    refine wp_get (pc := 1) dX11_truthAt_1 fl_X11_353_9 (hR.tr3 hy e) rfl ?_
    refine wp_astore_nN (pc := 4) (lv' := [_, _, _, _]) dX11_truthAt_4 rfl (Nat.le_of_ble_eq_true rfl) rfl rfl ?_
    refine wp_aload_nN (pc := 5) dX11_truthAt_5 rfl rfl ?_
    refine wp_ifnonnullN (pc := 6) dX11_truthAt_6 ?_
    refine wp_aload_n (pc := 9) dX11_truthAt_9 rfl rfl ?_
    refine wp_aload_n (pc := 10) dX11_truthAt_10 rfl rfl ?_
    refine wc_VV (pc := 11) (μ2 := mX11_refuseSort) (rc := 0) (rs := 0) [_] dX11_truthAt_11 rfl hR.bd rfl cv_X11_517_12 rfl ⟨(Nat.le_of_ble_eq_true rfl), (Nat.le_of_ble_eq_true rfl)⟩ (Nat.le_of_ble_eq_true rfl) (c_refuseSort l G hR hy h549) (fun r h q => ?_)
    obtain ⟨rfl, hR⟩ := q
    exact wp_iret (pc := 14) dX11_truthAt_14 rfl ⟨_, rfl, by simp only [arwF, e, (by decide : ((3 : Int32) = 0) = False), (by decide : ((3 : Int32) = 1) = False), (by decide : ((3 : Int32) = 2) = False), (by decide : ((3 : Int32) = 4) = False), if_true, if_false, Bool.true_eq_false, Bool.false_eq_true, reduceIte, reduceCtorEq, Bool.not_true, Bool.not_false, true_and, and_true, and_false, false_and, or_true, true_or, or_false, false_or, not_true_eq_false, not_false_eq_true] <;> rfl, by simp only [arwF, e, (by decide : ((3 : Int32) = 0) = False), (by decide : ((3 : Int32) = 1) = False), (by decide : ((3 : Int32) = 2) = False), (by decide : ((3 : Int32) = 4) = False), if_true, if_false, Bool.true_eq_false, Bool.false_eq_true, reduceIte, reduceCtorEq, Bool.not_true, Bool.not_false, true_and, and_true, and_false, false_and, or_true, true_or, or_false, false_or, not_true_eq_false, not_false_eq_true] <;> first | exact hR | (simp only [e, (by decide : ((3 : Int32) = 0) = False), (by decide : ((3 : Int32) = 1) = False), (by decide : ((3 : Int32) = 2) = False), (by decide : ((3 : Int32) = 4) = False), if_true, if_false, Bool.true_eq_false, Bool.false_eq_true, reduceIte, reduceCtorEq, Bool.not_true, Bool.not_false, true_and, and_true, and_false, false_and, or_true, true_or, or_false, false_or, not_true_eq_false, not_false_eq_true] at hR; exact hR)⟩
  · refine wp_aload_n (pc := 0) dX11_truthAt_0 rfl rfl ?_
    refine wp_get (pc := 1) dX11_truthAt_1 fl_X11_353_9 (hR.tr4 hy e) rfl ?_
    refine wp_astore_n (pc := 4) (lv' := [_, _, _, _]) dX11_truthAt_4 rfl (Nat.le_of_ble_eq_true rfl) rfl rfl ?_
    refine wp_aload_n (pc := 5) dX11_truthAt_5 rfl rfl ?_
    refine wp_ifnonnullR (pc := 6) (tgt := 15) dX11_truthAt_6 (by decide) ?_
    refine wp_iload_n (pc := 15) dX11_truthAt_15 rfl rfl ?_
    refine wp_iconst (pc := 16) (v := 0) dX11_truthAt_16 (by decide) ?_
    refine wp_aload_n (pc := 17) dX11_truthAt_17 rfl rfl ?_
    refine wp_alen (k := 2) (pc := 18) (by decide) dX11_truthAt_18 (hR.row4 hy e) ?_
    refine wp_iconst (pc := 19) (v := 1) dX11_truthAt_19 (by decide) ?_
    refine wp_isub (pc := 20) dX11_truthAt_20 ?_
    refine wc_SP (pc := 21) (μ2 := mX11_isWithin) (rc := 0) (rs := 0) [_, _, _] dX11_truthAt_21 rfl cs_X11_103 rfl ⟨(Nat.le_of_ble_eq_true rfl), (Nat.le_of_ble_eq_true rfl)⟩ (Nat.le_of_ble_eq_true rfl) (c_isWithin l G _ _ _ _) ?_
    refine wp_ifB_ne (pc := 24) (tgt := 34) dX11_truthAt_24 (by decide) (fun c24 => ?_) (fun c24 => ?_)
    · rw [fin_ix n (by omega)] at c24
      obtain ⟨q, hq, rfl⟩ := isIx_t c24 (by omega)
      have nq : nx (nI q) = q := nx_nI (by omega)
      refine wp_aload_n (pc := 34) dX11_truthAt_34 rfl rfl ?_
      refine wp_iload_n (pc := 35) dX11_truthAt_35 rfl rfl ?_
      refine wp_zald (pc := 36) (i := q) dX11_truthAt_36 (hR.row4 hy e) ⟨rfl, by omega, by omega⟩ ?_
      rw [if_pos (show q < nx (M.2.1 56 y) by omega)]
      refine wp_if_eq (pc := 37) (tgt := 44) dX11_truthAt_37 (by decide) (fun c37 => ?_) (fun c37 => ?_)
      · have d37 : M.2.2 57 (20 * y + q) = 0 := Decidable.byContradiction (fun z => by rw [if_neg z] at c37; exact absurd c37 (by decide))
        refine wp_iconst (pc := 44) (v := 0) dX11_truthAt_44 (by decide) ?_
        exact wp_iret (pc := 45) dX11_truthAt_45 rfl ⟨_, rfl, by simp only [arwF, e, (by decide : ((4 : Int32) = 0) = False), (by decide : ((4 : Int32) = 1) = False), (by decide : ((4 : Int32) = 2) = False), (by decide : ((4 : Int32) = 3) = False), c24, nq, d37, if_true, if_false, Bool.true_eq_false, Bool.false_eq_true, reduceIte, reduceCtorEq, Bool.not_true, Bool.not_false, true_and, and_true, and_false, false_and, or_true, true_or, or_false, false_or, not_true_eq_false, not_false_eq_true] <;> rfl, by simp only [arwF, e, (by decide : ((4 : Int32) = 0) = False), (by decide : ((4 : Int32) = 1) = False), (by decide : ((4 : Int32) = 2) = False), (by decide : ((4 : Int32) = 3) = False), c24, nq, if_true, if_false, Bool.true_eq_false, Bool.false_eq_true, reduceIte, reduceCtorEq, Bool.not_true, Bool.not_false, true_and, and_true, and_false, false_and, or_true, true_or, or_false, false_or, not_true_eq_false, not_false_eq_true] <;> exact hR⟩
      · have d37 : M.2.2 57 (20 * y + q) = 1 := (h01 e q hq).resolve_left (fun z => c37 (by rw [if_pos z]))
        refine wp_iconst (pc := 40) (v := 1) dX11_truthAt_40 (by decide) ?_
        refine wp_goto (pc := 41) (tgt := 45) dX11_truthAt_41 (by decide) ?_
        exact wp_iret (pc := 45) dX11_truthAt_45 rfl ⟨_, rfl, by simp only [arwF, e, (by decide : ((4 : Int32) = 0) = False), (by decide : ((4 : Int32) = 1) = False), (by decide : ((4 : Int32) = 2) = False), (by decide : ((4 : Int32) = 3) = False), c24, nq, d37, if_true, if_false, Bool.true_eq_false, Bool.false_eq_true, reduceIte, reduceCtorEq, Bool.not_true, Bool.not_false, true_and, and_true, and_false, false_and, or_true, true_or, or_false, false_or, not_true_eq_false, not_false_eq_true] <;> rfl, by simp only [arwF, e, (by decide : ((4 : Int32) = 0) = False), (by decide : ((4 : Int32) = 1) = False), (by decide : ((4 : Int32) = 2) = False), (by decide : ((4 : Int32) = 3) = False), c24, nq, if_true, if_false, Bool.true_eq_false, Bool.false_eq_true, reduceIte, reduceCtorEq, Bool.not_true, Bool.not_false, true_and, and_true, and_false, false_and, or_true, true_or, or_false, false_or, not_true_eq_false, not_false_eq_true] <;> exact hR⟩
    · rw [fin_ix n (by omega)] at c24
      refine wp_aload_n (pc := 27) dX11_truthAt_27 rfl rfl ?_
      refine wp_bipush (pc := 28) (v := 12) dX11_truthAt_28 (by decide) ?_
      refine wc_VV (pc := 30) (μ2 := mX11_refuse) (rc := 0) (rs := 0) [_] dX11_truthAt_30 rfl hR.bd rfl cv_X11_328_12 rfl ⟨(Nat.le_of_ble_eq_true rfl), (Nat.le_of_ble_eq_true rfl)⟩ (Nat.le_of_ble_eq_true rfl) (c_refuse l G _ hR) (fun r h q => ?_)
      obtain ⟨rfl, hR⟩ := q
      exact wp_iret (pc := 33) dX11_truthAt_33 rfl ⟨_, rfl, by simp only [arwF, e, (by decide : ((4 : Int32) = 0) = False), (by decide : ((4 : Int32) = 1) = False), (by decide : ((4 : Int32) = 2) = False), (by decide : ((4 : Int32) = 3) = False), c24, if_true, if_false, Bool.true_eq_false, Bool.false_eq_true, reduceIte, reduceCtorEq, Bool.not_true, Bool.not_false, true_and, and_true, and_false, false_and, or_true, true_or, or_false, false_or, not_true_eq_false, not_false_eq_true], by simp only [arwF, e, (by decide : ((4 : Int32) = 0) = False), (by decide : ((4 : Int32) = 1) = False), (by decide : ((4 : Int32) = 2) = False), (by decide : ((4 : Int32) = 3) = False), c24, if_true, if_false, Bool.true_eq_false, Bool.false_eq_true, reduceIte, reduceCtorEq, Bool.not_true, Bool.not_false, true_and, and_true, and_false, false_and, or_true, true_or, or_false, false_or, not_true_eq_false, not_false_eq_true] <;> exact hR⟩
end K30
