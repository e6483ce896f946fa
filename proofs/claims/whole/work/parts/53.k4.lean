/-! ===== the class: what may be used, counts ===== -/
/-- a public method's contract: the answer, and the state behind -/
abbrev KS (l : Launch) (G : WG) (hp : Hp) (A : AD) (μ : MI) (av : List Value) (M : MS) (h : Hp) (v : Value) (M' : MS) : Prop := SpV l G μ (.ref (A.1 0 0) :: av) h (fun r h' => r = v ∧ ∃ A', RH G hp A' M' h' ∧ ext A M A')
section K4
variable (l : Launch) (G : WG) {hp h : Hp} {A : AD} {M : MS}
theorem mAt_t {A : AD} {M : MS} {w t : Nat} (hb : bnd M) (hw : w < nx (M.1 6)) (ht : t < nx (M.1 11)) : mAt A M (nI w) (nI t) = some (A.1 6 (20 * w + t)) := by
  have hb9 := hb
  unfold bnd at hb9
  unfold mAt
  rw [if_pos ⟨isIx_nI hw (by omega), isIx_nI ht (by omega)⟩, nx_nI (show w < 2 ^ 31 by omega), nx_nI (show t < 2 ^ 31 by omega)]
theorem mAt_s {A : AD} {M : MS} {w t : Int32} {a : Nat} (hb : bnd M) (h : mAt A M w t = some a) : ∃ i j, i < nx (M.1 6) ∧ j < nx (M.1 11) ∧ w = nI i ∧ t = nI j ∧ a = A.1 6 (20 * i + j) := by
  have hb9 := hb
  unfold bnd at hb9
  unfold mAt at h
  split at h
  · rename_i hi
    obtain ⟨i, hi1, rfl⟩ := isIx_t hi.1 (by omega)
    obtain ⟨j, hj1, rfl⟩ := isIx_t hi.2 (by omega)
    rw [nx_nI (show i < 2 ^ 31 by omega), nx_nI (show j < 2 ^ 31 by omega)] at h
    cases h
    exact ⟨i, j, hi1, hj1, rfl, rfl, rfl⟩
  · cases h
theorem mAt_n {A : AD} {M : MS} {w t : Int32} (h : mAt A M w t = none) : isIx w (nx (M.1 6)) = true → isIx t (nx (M.1 11)) = false := by
  intro hw
  unfold mAt at h
  split at h
  · cases h
  · rename_i hi
    cases hz : isIx t (nx (M.1 11)) with
    | false => rfl
    | true => exact absurd ⟨hw, hz⟩ hi
theorem c_mayUse {w t : Nat} (hR : RH G hp A M h) (hb : bnd M) (hw : w < nx (M.1 6)) (ht : t < nx (M.1 11)) : SpP l G mX11_mayUse [.ref (A.1 0 0), .int (nI w), .int (nI t)] h (.int (bi (mayB M w t))) := by
  refine Sp.intro (lv := [_, _, _, _, _]) (by decide) rfl (Nat.le_of_ble_eq_true rfl) ?_
  refine wp_widen (rc' := 0) (rs' := 0) (Nat.le_refl _) (Nat.le_refl _) ?_
  have hb9 := hb
  unfold bnd at hb9
  refine wp_aload_n (pc := 0) dX11_mayUse_0 rfl rfl ?_
  refine wp_iload_n (pc := 1) dX11_mayUse_1 rfl rfl ?_
  refine wc_VP (pc := 2) (μ2 := mX11_workerAt) (rc := 0) (rs := 0) [_] dX11_mayUse_2 rfl hR.bd rfl cv_X11_127_12 rfl ⟨(Nat.le_of_ble_eq_true rfl), (Nat.le_of_ble_eq_true rfl)⟩ (Nat.le_of_ble_eq_true rfl) (c_workerAt l G _ hR hb) ?_
  rw [oAt_t hw (by omega)]
  refine wp_astore_n (pc := 5) (lv' := [_, _, _, _, _]) dX11_mayUse_5 rfl (Nat.le_of_ble_eq_true rfl) rfl rfl ?_
  refine wp_aload_n (pc := 6) dX11_mayUse_6 rfl rfl ?_
  refine wp_iload_n (pc := 7) dX11_mayUse_7 rfl rfl ?_
  refine wp_iload_n (pc := 8) dX11_mayUse_8 rfl rfl ?_
  refine wc_VP (pc := 9) (μ2 := mX11_memoryAt) (rc := 0) (rs := 0) [_, _] dX11_mayUse_9 rfl hR.bd rfl cv_X11_186_12 rfl ⟨(Nat.le_of_ble_eq_true rfl), (Nat.le_of_ble_eq_true rfl)⟩ (Nat.le_of_ble_eq_true rfl) (c_memoryAt l G _ _ hR hb) ?_
  rw [mAt_t hb hw ht]
  refine wp_astore (pc := 12) (lv' := [_, _, _, _, _]) dX11_mayUse_12 (Nat.le_of_ble_eq_true rfl) rfl rfl ?_
  refine wp_aload_n (pc := 14) dX11_mayUse_14 rfl rfl ?_
  refine wp_ifnullR (pc := 15) dX11_mayUse_15 ?_
  refine wp_aload (pc := 18) dX11_mayUse_18 rfl ?_
  refine wp_ifnullR (pc := 20) dX11_mayUse_20 ?_
  refine wp_aload_n (pc := 23) dX11_mayUse_23 rfl rfl ?_
  refine wp_get (pc := 24) dX11_mayUse_24 fl_X11_143_11 (hR.wk hw) rfl ?_
  refine wp_if_eq (pc := 27) (tgt := 59) dX11_mayUse_27 (by decide) (fun c27 => ?_) (fun c27 => ?_)
  · skip
    refine wp_iconst (pc := 59) (v := 0) dX11_mayUse_59 (by decide) ?_
    exact wp_zret (pc := 60) dX11_mayUse_60 rfl (by decide) ⟨by simp only [mayB, bi, eq_true c27, if_true, if_false, Bool.true_eq_false, Bool.false_eq_true, reduceIte, reduceCtorEq, Bool.not_true, Bool.not_false, true_and, and_true, and_false, false_and, or_true, true_or, or_false, false_or, not_true_eq_false, not_false_eq_true], rfl⟩
  · skip
    refine wp_aload (pc := 30) dX11_mayUse_30 rfl ?_
    refine wp_get (pc := 32) dX11_mayUse_32 fl_X11_135_4 (hR.mm (i := 20 * w + t) (by omega)) rfl ?_
    refine wp_if_eq (pc := 35) (tgt := 59) dX11_mayUse_35 (by decide) (fun c35 => ?_) (fun c35 => ?_)
    · skip
      refine wp_iconst (pc := 59) (v := 0) dX11_mayUse_59 (by decide) ?_
      exact wp_zret (pc := 60) dX11_mayUse_60 rfl (by decide) ⟨by simp only [mayB, bi, eq_false c27, eq_true c35, if_true, if_false, Bool.true_eq_false, Bool.false_eq_true, reduceIte, reduceCtorEq, Bool.not_true, Bool.not_false, true_and, and_true, and_false, false_and, or_true, true_or, or_false, false_or, not_true_eq_false, not_false_eq_true], rfl⟩
    · skip
      refine wp_aload_n (pc := 38) dX11_mayUse_38 rfl rfl ?_
      refine wp_aload_n (pc := 39) dX11_mayUse_39 rfl rfl ?_
      refine wp_get (pc := 40) dX11_mayUse_40 fl_X11_43_12 hR.bd rfl ?_
      refine wc_UP (pc := 43) (μ2 := mX5_shows) (rc := 0) (rs := 0) [_] dX11_mayUse_43 rfl (hR.wk hw) rfl cu_X11_408_11 rfl ⟨(Nat.le_of_ble_eq_true rfl), (Nat.le_of_ble_eq_true rfl)⟩ (Nat.le_of_ble_eq_true rfl) (c_shows11 l G _ (hR.wk hw)) ?_
      refine wp_aload (pc := 46) dX11_mayUse_46 rfl ?_
      refine wp_get (pc := 48) dX11_mayUse_48 fl_X11_306_4 (hR.mm (i := 20 * w + t) (by omega)) rfl ?_
      refine wp_lcmp_ge (pc := 51) (tgt := 59) dX11_mayUse_51 dX11_mayUse_52 (by decide) (fun c51 => ?_) (fun c51 => ?_)
      · have c51 : M.2.2 34 (20 * w + t) ≤ wClk M w := c51
        refine wp_iconst (pc := 59) (v := 0) dX11_mayUse_59 (by decide) ?_
        exact wp_zret (pc := 60) dX11_mayUse_60 rfl (by decide) ⟨by simp only [mayB, bi, eq_false c27, eq_false c35, eq_true c51, if_true, if_false, Bool.true_eq_false, Bool.false_eq_true, reduceIte, reduceCtorEq, Bool.not_true, Bool.not_false, true_and, and_true, and_false, false_and, or_true, true_or, or_false, false_or, not_true_eq_false, not_false_eq_true], rfl⟩
      · have c51 : ¬ M.2.2 34 (20 * w + t) ≤ wClk M w := c51
        refine wp_iconst (pc := 55) (v := 1) dX11_mayUse_55 (by decide) ?_
        refine wp_goto (pc := 56) (tgt := 60) dX11_mayUse_56 (by decide) ?_
        exact wp_zret (pc := 60) dX11_mayUse_60 rfl (by decide) ⟨by simp only [mayB, bi, eq_false c27, eq_false c35, eq_false c51, if_true, if_false, Bool.true_eq_false, Bool.false_eq_true, reduceIte, reduceCtorEq, Bool.not_true, Bool.not_false, true_and, and_true, and_false, false_and, or_true, true_or, or_false, false_or, not_true_eq_false, not_false_eq_true], rfl⟩
theorem c_usersOf {t : Nat} (hR : RH G hp A M h) (hb : bnd M) (ht : t < nx (M.1 11)) : SpP l G mX11_usersOf [.ref (A.1 0 0), .int (nI t)] h (.int (mysN M t (nx (M.1 6)))) := by
  refine Sp.intro (lv := [_, _, _, _]) (by decide) rfl (Nat.le_of_ble_eq_true rfl) ?_
  refine wp_widen (rc' := 0) (rs' := 0) (Nat.le_refl _) (Nat.le_refl _) ?_
  have hb9 := hb
  unfold bnd at hb9
  generalize hQ0 : (fun (w : Option Value) (h' : Hp) => w = some (.int (mysN M t (nx (M.1 6)))) ∧ h' = h) = Q0
  have loop : ∀ i, i ≤ nx (M.1 6) → wp l G mX11_usersOf (zM G mX11_usersOf Q0) 4 [some (.ref (A.1 0 0)), some (.int (nI t)), some (.int (mysN M t (i))), some (.int (nI (i)))] [] h 0 0 := by
    refine loopU _ (nx (M.1 6)) (fun i hi ih => ?_) ?_
    · refine wp_iload_n (pc := 4) dX11_usersOf_4 rfl rfl ?_
      refine wp_aload_n (pc := 5) dX11_usersOf_5 rfl rfl ?_
      refine wp_get (pc := 6) dX11_usersOf_6 fl_X11_16_12 hR.bd rfl ?_
      refine wc_VP (pc := 9) (μ2 := mJx4a65c_size_8abf5) (rc := 0) (rs := 0) [] dX11_usersOf_9 rfl (hR.lst (ll := 1) (by omega)) rfl cv_X11_87_0 rfl ⟨(Nat.le_of_ble_eq_true rfl), (Nat.le_of_ble_eq_true rfl)⟩ (Nat.le_of_ble_eq_true rfl) (show SpP l G mJx4a65c_size_8abf5 [_] _ (.int (nI (nx (M.1 6)))) from j_size l G _ (hR.lst (ll := 1) (by omega))) ?_
      refine wp_icmp_ge (pc := 12) (tgt := 38) dX11_usersOf_12 (by decide) (fun z => absurd z (nI_ge hi (by omega))) (fun _ => ?_)
      refine wp_iload_n (pc := 15) dX11_usersOf_15 rfl rfl ?_
      refine wp_aload_n (pc := 16) dX11_usersOf_16 rfl rfl ?_
      refine wp_iload_n (pc := 17) dX11_usersOf_17 rfl rfl ?_
      refine wp_iload_n (pc := 18) dX11_usersOf_18 rfl rfl ?_
      refine wc_VP (pc := 19) (μ2 := mX11_mayUse) (rc := 0) (rs := 0) [_, _] dX11_usersOf_19 rfl hR.bd rfl cv_X11_300_12 rfl ⟨(Nat.le_of_ble_eq_true rfl), (Nat.le_of_ble_eq_true rfl)⟩ (Nat.le_of_ble_eq_true rfl) (c_mayUse l G hR hb (by omega) (by omega)) ?_
      refine wp_ifB_eq (pc := 22) (tgt := 29) dX11_usersOf_22 (by decide) (fun c22 => ?_) (fun c22 => ?_)
      · skip
        refine wp_iconst (pc := 29) (v := 0) dX11_usersOf_29 (by decide) ?_
        refine wp_iadd (pc := 30) dX11_usersOf_30 ?_
        refine wp_istore_n (pc := 31) (lv' := [_, _, _, _]) dX11_usersOf_31 rfl (Nat.le_of_ble_eq_true rfl) rfl rfl ?_
        refine wp_iinc (pc := 32) (v := _ + 1) (lv' := [_, _, _, _]) dX11_usersOf_32 rfl rfl rfl rfl ?_
        refine wp_goto (pc := 35) (tgt := 4) dX11_usersOf_35 (by decide) ?_
        exact wp_lv ih (by simp [mysN, bi, nI_1, c22])
      · skip
        refine wp_iconst (pc := 25) (v := 1) dX11_usersOf_25 (by decide) ?_
        refine wp_goto (pc := 26) (tgt := 30) dX11_usersOf_26 (by decide) ?_
        refine wp_iadd (pc := 30) dX11_usersOf_30 ?_
        refine wp_istore_n (pc := 31) (lv' := [_, _, _, _]) dX11_usersOf_31 rfl (Nat.le_of_ble_eq_true rfl) rfl rfl ?_
        refine wp_iinc (pc := 32) (v := _ + 1) (lv' := [_, _, _, _]) dX11_usersOf_32 rfl rfl rfl rfl ?_
        refine wp_goto (pc := 35) (tgt := 4) dX11_usersOf_35 (by decide) ?_
        exact wp_lv ih (by simp [mysN, bi, nI_1, c22])
    · refine wp_iload_n (pc := 4) dX11_usersOf_4 rfl rfl ?_
      refine wp_aload_n (pc := 5) dX11_usersOf_5 rfl rfl ?_
      refine wp_get (pc := 6) dX11_usersOf_6 fl_X11_16_12 hR.bd rfl ?_
      refine wc_VP (pc := 9) (μ2 := mJx4a65c_size_8abf5) (rc := 0) (rs := 0) [] dX11_usersOf_9 rfl (hR.lst (ll := 1) (by omega)) rfl cv_X11_87_0 rfl ⟨(Nat.le_of_ble_eq_true rfl), (Nat.le_of_ble_eq_true rfl)⟩ (Nat.le_of_ble_eq_true rfl) (show SpP l G mJx4a65c_size_8abf5 [_] _ (.int (nI (nx (M.1 6)))) from j_size l G _ (hR.lst (ll := 1) (by omega))) ?_
      refine wp_icmp_ge (pc := 12) (tgt := 38) dX11_usersOf_12 (by decide) (fun _ => ?_) (fun z => absurd (nI_le (Nat.le_refl _) (by omega)) z)
      refine wp_iload_n (pc := 38) dX11_usersOf_38 rfl rfl ?_
      exact wp_iret (pc := 39) dX11_usersOf_39 rfl (by rw [← hQ0]; exact ⟨rfl, rfl⟩)
  refine wp_iconst (pc := 0) (v := 0) dX11_usersOf_0 (by decide) ?_
  refine wp_istore_n (pc := 1) (lv' := [_, _, _, _]) dX11_usersOf_1 rfl (Nat.le_of_ble_eq_true rfl) rfl rfl ?_
  refine wp_iconst (pc := 2) (v := 0) dX11_usersOf_2 (by decide) ?_
  refine wp_istore_n (pc := 3) (lv' := [_, _, _, _]) dX11_usersOf_3 rfl (Nat.le_of_ble_eq_true rfl) rfl rfl ?_
  exact loop 0 (Nat.zero_le _)
theorem c_lettersUnderWay  (hR : RH G hp A M h) (hb : bnd M) : SpP l G mX11_lettersUnderWay [.ref (A.1 0 0)] h (.int (udw M (nx (M.1 35)))) := by
  refine Sp.intro (lv := [_, _, _]) (by decide) rfl (Nat.le_of_ble_eq_true rfl) ?_
  refine wp_widen (rc' := 0) (rs' := 0) (Nat.le_refl _) (Nat.le_refl _) ?_
  have hb9 := hb
  unfold bnd at hb9
  generalize hQ0 : (fun (w : Option Value) (h' : Hp) => w = some (.int (udw M (nx (M.1 35)))) ∧ h' = h) = Q0
  have loop : ∀ i, i ≤ nx (M.1 35) → wp l G mX11_lettersUnderWay (zM G mX11_lettersUnderWay Q0) 4 [some (.ref (A.1 0 0)), some (.int (udw M (i))), some (.int (nI (i)))] [] h 0 0 := by
    refine loopU _ (nx (M.1 35)) (fun i hi ih => ?_) ?_
    · refine wp_iload_n (pc := 4) dX11_lettersUnderWay_4 rfl rfl ?_
      refine wp_aload_n (pc := 5) dX11_lettersUnderWay_5 rfl rfl ?_
      refine wp_get (pc := 6) dX11_lettersUnderWay_6 fl_X11_22_12 hR.bd rfl ?_
      refine wc_VP (pc := 9) (μ2 := mJx4a65c_size_8abf5) (rc := 0) (rs := 0) [] dX11_lettersUnderWay_9 rfl (hR.lst (ll := 3) (by omega)) rfl cv_X11_87_0 rfl ⟨(Nat.le_of_ble_eq_true rfl), (Nat.le_of_ble_eq_true rfl)⟩ (Nat.le_of_ble_eq_true rfl) (show SpP l G mJx4a65c_size_8abf5 [_] _ (.int (nI (nx (M.1 35)))) from j_size l G _ (hR.lst (ll := 3) (by omega))) ?_
      refine wp_icmp_ge (pc := 12) (tgt := 46) dX11_lettersUnderWay_12 (by decide) (fun z => absurd z (nI_ge hi (by omega))) (fun _ => ?_)
      refine wp_iload_n (pc := 15) dX11_lettersUnderWay_15 rfl rfl ?_
      refine wp_aload_n (pc := 16) dX11_lettersUnderWay_16 rfl rfl ?_
      refine wp_get (pc := 17) dX11_lettersUnderWay_17 fl_X11_22_12 hR.bd rfl ?_
      refine wp_iload_n (pc := 20) dX11_lettersUnderWay_20 rfl rfl ?_
      refine wc_VP (pc := 21) (μ2 := mJx4a65c_get_915e3) (rc := 0) (rs := 0) [_] dX11_lettersUnderWay_21 rfl (hR.lst (ll := 3) (by omega)) rfl cv_X11_383_0 rfl ⟨(Nat.le_of_ble_eq_true rfl), (Nat.le_of_ble_eq_true rfl)⟩ (Nat.le_of_ble_eq_true rfl) (j_get l G _ (hR.lst (ll := 3) (by omega)) (hR.dat (by omega)) hi (hR.cap (by omega)).1 (hR.cap (by omega)).2) ?_
      refine wp_cast (pc := 24) dX11_lettersUnderWay_24 (hR.lt hi) ca_X11_169_3 ?_
      refine wp_get (pc := 27) dX11_lettersUnderWay_27 fl_X11_209_3 (hR.lt hi) rfl ?_
      refine wp_if_ne (pc := 30) (tgt := 37) dX11_lettersUnderWay_30 (by decide) (fun c30 => ?_) (fun c30 => ?_)
      · skip
        refine wp_iconst (pc := 37) (v := 0) dX11_lettersUnderWay_37 (by decide) ?_
        refine wp_iadd (pc := 38) dX11_lettersUnderWay_38 ?_
        refine wp_istore_n (pc := 39) (lv' := [_, _, _]) dX11_lettersUnderWay_39 rfl (Nat.le_of_ble_eq_true rfl) rfl rfl ?_
        refine wp_iinc (pc := 40) (v := _ + 1) (lv' := [_, _, _]) dX11_lettersUnderWay_40 rfl rfl rfl rfl ?_
        refine wp_goto (pc := 43) (tgt := 4) dX11_lettersUnderWay_43 (by decide) ?_
        exact wp_lv ih (by simp [udw, nI_1, c30])
      · skip
        refine wp_iconst (pc := 33) (v := 1) dX11_lettersUnderWay_33 (by decide) ?_
        refine wp_goto (pc := 34) (tgt := 38) dX11_lettersUnderWay_34 (by decide) ?_
        refine wp_iadd (pc := 38) dX11_lettersUnderWay_38 ?_
        refine wp_istore_n (pc := 39) (lv' := [_, _, _]) dX11_lettersUnderWay_39 rfl (Nat.le_of_ble_eq_true rfl) rfl rfl ?_
        refine wp_iinc (pc := 40) (v := _ + 1) (lv' := [_, _, _]) dX11_lettersUnderWay_40 rfl rfl rfl rfl ?_
        refine wp_goto (pc := 43) (tgt := 4) dX11_lettersUnderWay_43 (by decide) ?_
        exact wp_lv ih (by simp [udw, nI_1, c30])
    · refine wp_iload_n (pc := 4) dX11_lettersUnderWay_4 rfl rfl ?_
      refine wp_aload_n (pc := 5) dX11_lettersUnderWay_5 rfl rfl ?_
      refine wp_get (pc := 6) dX11_lettersUnderWay_6 fl_X11_22_12 hR.bd rfl ?_
      refine wc_VP (pc := 9) (μ2 := mJx4a65c_size_8abf5) (rc := 0) (rs := 0) [] dX11_lettersUnderWay_9 rfl (hR.lst (ll := 3) (by omega)) rfl cv_X11_87_0 rfl ⟨(Nat.le_of_ble_eq_true rfl), (Nat.le_of_ble_eq_true rfl)⟩ (Nat.le_of_ble_eq_true rfl) (show SpP l G mJx4a65c_size_8abf5 [_] _ (.int (nI (nx (M.1 35)))) from j_size l G _ (hR.lst (ll := 3) (by omega))) ?_
      refine wp_icmp_ge (pc := 12) (tgt := 46) dX11_lettersUnderWay_12 (by decide) (fun _ => ?_) (fun z => absurd (nI_le (Nat.le_refl _) (by omega)) z)
      refine wp_iload_n (pc := 46) dX11_lettersUnderWay_46 rfl rfl ?_
      exact wp_iret (pc := 47) dX11_lettersUnderWay_47 rfl (by rw [← hQ0]; exact ⟨rfl, rfl⟩)
  refine wp_iconst (pc := 0) (v := 0) dX11_lettersUnderWay_0 (by decide) ?_
  refine wp_istore_n (pc := 1) (lv' := [_, _, _]) dX11_lettersUnderWay_1 rfl (Nat.le_of_ble_eq_true rfl) rfl rfl ?_
  refine wp_iconst (pc := 2) (v := 0) dX11_lettersUnderWay_2 (by decide) ?_
  refine wp_istore_n (pc := 3) (lv' := [_, _, _]) dX11_lettersUnderWay_3 rfl (Nat.le_of_ble_eq_true rfl) rfl rfl ?_
  exact loop 0 (Nat.zero_le _)
end K4
