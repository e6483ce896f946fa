/-! ===== the class: what is awake, what has room ===== -/
section K3
variable (l : Launch) (G : WG) {hp h : Hp} {A : AD} {M : MS}
theorem c_keepersAwake  (hR : RH G hp A M h) (hb : bnd M) : SpP l G mX11_keepersAwake [.ref (A.1 0 0)] h (.int (awk M (nx (M.1 2)))) := by
  refine Sp.intro (lv := [_, _, _]) (by decide) rfl (Nat.le_of_ble_eq_true rfl) ?_
  refine wp_widen (rc' := 0) (rs' := 0) (Nat.le_refl _) (Nat.le_refl _) ?_
  have hb9 := hb
  unfold bnd at hb9
  generalize hQ0 : (fun (w : Option Value) (h' : Hp) => w = some (.int (awk M (nx (M.1 2)))) ∧ h' = h) = Q0
  have loop : ∀ i, i ≤ nx (M.1 2) → wp l G mX11_keepersAwake (zM G mX11_keepersAwake Q0) 4 [some (.ref (A.1 0 0)), some (.int (awk M (i))), some (.int (nI (i)))] [] h 0 0 := by
    refine loopU _ (nx (M.1 2)) (fun i hi ih => ?_) ?_
    · refine wp_iload_n (pc := 4) dX11_keepersAwake_4 rfl rfl ?_
      refine wp_aload_n (pc := 5) dX11_keepersAwake_5 rfl rfl ?_
      refine wp_get (pc := 6) dX11_keepersAwake_6 fl_X11_10_12 hR.bd rfl ?_
      refine wc_VP (pc := 9) (μ2 := mJx4a65c_size_8abf5) (rc := 0) (rs := 0) [] dX11_keepersAwake_9 rfl (hR.lst (ll := 0) (by omega)) rfl cv_X11_87_0 rfl ⟨(Nat.le_of_ble_eq_true rfl), (Nat.le_of_ble_eq_true rfl)⟩ (Nat.le_of_ble_eq_true rfl) (show SpP l G mJx4a65c_size_8abf5 [_] _ (.int (nI (nx (M.1 2)))) from j_size l G _ (hR.lst (ll := 0) (by omega))) ?_
      refine wp_icmp_ge (pc := 12) (tgt := 46) dX11_keepersAwake_12 (by decide) (fun z => absurd z (nI_ge hi (by omega))) (fun _ => ?_)
      refine wp_iload_n (pc := 15) dX11_keepersAwake_15 rfl rfl ?_
      refine wp_aload_n (pc := 16) dX11_keepersAwake_16 rfl rfl ?_
      refine wp_get (pc := 17) dX11_keepersAwake_17 fl_X11_10_12 hR.bd rfl ?_
      refine wp_iload_n (pc := 20) dX11_keepersAwake_20 rfl rfl ?_
      refine wc_VP (pc := 21) (μ2 := mJx4a65c_get_915e3) (rc := 0) (rs := 0) [_] dX11_keepersAwake_21 rfl (hR.lst (ll := 0) (by omega)) rfl cv_X11_383_0 rfl ⟨(Nat.le_of_ble_eq_true rfl), (Nat.le_of_ble_eq_true rfl)⟩ (Nat.le_of_ble_eq_true rfl) (j_get l G _ (hR.lst (ll := 0) (by omega)) (hR.dat (by omega)) hi (hR.cap (by omega)).1 (hR.cap (by omega)).2) ?_
      refine wp_cast (pc := 24) dX11_keepersAwake_24 (hR.kp hi) ca_X11_91_6 ?_
      refine wp_get (pc := 27) dX11_keepersAwake_27 fl_X11_123_6 (hR.kp hi) rfl ?_
      refine wp_if_eq (pc := 30) (tgt := 37) dX11_keepersAwake_30 (by decide) (fun c30 => ?_) (fun c30 => ?_)
      · skip
        refine wp_iconst (pc := 37) (v := 0) dX11_keepersAwake_37 (by decide) ?_
        refine wp_iadd (pc := 38) dX11_keepersAwake_38 ?_
        refine wp_istore_n (pc := 39) (lv' := [_, _, _]) dX11_keepersAwake_39 rfl (Nat.le_of_ble_eq_true rfl) rfl rfl ?_
        refine wp_iinc (pc := 40) (v := _ + 1) (lv' := [_, _, _]) dX11_keepersAwake_40 rfl rfl rfl rfl ?_
        refine wp_goto (pc := 43) (tgt := 4) dX11_keepersAwake_43 (by decide) ?_
        exact wp_lv ih (by simp [awk, nI_1, c30])
      · skip
        refine wp_iconst (pc := 33) (v := 1) dX11_keepersAwake_33 (by decide) ?_
        refine wp_goto (pc := 34) (tgt := 38) dX11_keepersAwake_34 (by decide) ?_
        refine wp_iadd (pc := 38) dX11_keepersAwake_38 ?_
        refine wp_istore_n (pc := 39) (lv' := [_, _, _]) dX11_keepersAwake_39 rfl (Nat.le_of_ble_eq_true rfl) rfl rfl ?_
        refine wp_iinc (pc := 40) (v := _ + 1) (lv' := [_, _, _]) dX11_keepersAwake_40 rfl rfl rfl rfl ?_
        refine wp_goto (pc := 43) (tgt := 4) dX11_keepersAwake_43 (by decide) ?_
        exact wp_lv ih (by simp [awk, nI_1, c30])
    · refine wp_iload_n (pc := 4) dX11_keepersAwake_4 rfl rfl ?_
      refine wp_aload_n (pc := 5) dX11_keepersAwake_5 rfl rfl ?_
      refine wp_get (pc := 6) dX11_keepersAwake_6 fl_X11_10_12 hR.bd rfl ?_
      refine wc_VP (pc := 9) (μ2 := mJx4a65c_size_8abf5) (rc := 0) (rs := 0) [] dX11_keepersAwake_9 rfl (hR.lst (ll := 0) (by omega)) rfl cv_X11_87_0 rfl ⟨(Nat.le_of_ble_eq_true rfl), (Nat.le_of_ble_eq_true rfl)⟩ (Nat.le_of_ble_eq_true rfl) (show SpP l G mJx4a65c_size_8abf5 [_] _ (.int (nI (nx (M.1 2)))) from j_size l G _ (hR.lst (ll := 0) (by omega))) ?_
      refine wp_icmp_ge (pc := 12) (tgt := 46) dX11_keepersAwake_12 (by decide) (fun _ => ?_) (fun z => absurd (nI_le (Nat.le_refl _) (by omega)) z)
      refine wp_iload_n (pc := 46) dX11_keepersAwake_46 rfl rfl ?_
      exact wp_iret (pc := 47) dX11_keepersAwake_47 rfl (by rw [← hQ0]; exact ⟨rfl, rfl⟩)
  refine wp_iconst (pc := 0) (v := 0) dX11_keepersAwake_0 (by decide) ?_
  refine wp_istore_n (pc := 1) (lv' := [_, _, _]) dX11_keepersAwake_1 rfl (Nat.le_of_ble_eq_true rfl) rfl rfl ?_
  refine wp_iconst (pc := 2) (v := 0) dX11_keepersAwake_2 (by decide) ?_
  refine wp_istore_n (pc := 3) (lv' := [_, _, _]) dX11_keepersAwake_3 rfl (Nat.le_of_ble_eq_true rfl) rfl rfl ?_
  exact loop 0 (Nat.zero_le _)
theorem c_areMostAwake  (hR : RH G hp A M h) (hb : bnd M) (hK : M.1 2 = nI (nx (M.1 2))) : SpP l G mX11_areMostAwake [.ref (A.1 0 0)] h (.int (bi (isMst M))) := by
  refine Sp.intro (lv := [_]) (by decide) rfl (Nat.le_of_ble_eq_true rfl) ?_
  refine wp_widen (rc' := 0) (rs' := 0) (Nat.le_refl _) (Nat.le_refl _) ?_
  refine wp_iconst (pc := 0) (v := 2) dX11_areMostAwake_0 (by decide) ?_
  refine wp_aload_n (pc := 1) dX11_areMostAwake_1 rfl rfl ?_
  refine wc_VP (pc := 2) (μ2 := mX11_keepersAwake) (rc := 0) (rs := 0) [] dX11_areMostAwake_2 rfl hR.bd rfl cv_X11_315_12 rfl ⟨(Nat.le_of_ble_eq_true rfl), (Nat.le_of_ble_eq_true rfl)⟩ (Nat.le_of_ble_eq_true rfl) (c_keepersAwake l G hR hb) ?_
  refine wp_imul (pc := 5) dX11_areMostAwake_5 ?_
  refine wp_aload_n (pc := 6) dX11_areMostAwake_6 rfl rfl ?_
  refine wp_get (pc := 7) dX11_areMostAwake_7 fl_X11_10_12 hR.bd rfl ?_
  refine wc_VP (pc := 10) (μ2 := mJx4a65c_size_8abf5) (rc := 0) (rs := 0) [] dX11_areMostAwake_10 rfl (hR.lst (ll := 0) (by omega)) rfl cv_X11_87_0 rfl ⟨(Nat.le_of_ble_eq_true rfl), (Nat.le_of_ble_eq_true rfl)⟩ (Nat.le_of_ble_eq_true rfl) (show SpP l G mJx4a65c_size_8abf5 [_] _ (.int (nI (nx (M.1 2)))) from j_size l G _ (hR.lst (ll := 0) (by omega))) ?_
  refine wp_icmp_le (pc := 13) (tgt := 20) dX11_areMostAwake_13 (by decide) (fun c13 => ?_) (fun c13 => ?_)
  · skip
    refine wp_iconst (pc := 20) (v := 0) dX11_areMostAwake_20 (by decide) ?_
    exact wp_zret (pc := 21) dX11_areMostAwake_21 rfl (by decide) ⟨by rw [← hK] at c13; simp only [isMst, eq_true c13, bi, if_true, if_false, Bool.true_eq_false, Bool.false_eq_true, reduceIte, reduceCtorEq, Bool.not_true, Bool.not_false, true_and, and_true, and_false, false_and, or_true, true_or, or_false, false_or, not_true_eq_false, not_false_eq_true], rfl⟩
  · skip
    refine wp_iconst (pc := 16) (v := 1) dX11_areMostAwake_16 (by decide) ?_
    refine wp_goto (pc := 17) (tgt := 21) dX11_areMostAwake_17 (by decide) ?_
    exact wp_zret (pc := 21) dX11_areMostAwake_21 rfl (by decide) ⟨by rw [← hK] at c13; simp only [isMst, eq_false c13, bi, if_true, if_false, Bool.true_eq_false, Bool.false_eq_true, reduceIte, reduceCtorEq, Bool.not_true, Bool.not_false, true_and, and_true, and_false, false_and, or_true, true_or, or_false, false_or, not_true_eq_false, not_false_eq_true], rfl⟩
theorem c_ableLeader  (hR : RH G hp A M h) (hb : bnd M) (hK : M.1 2 = nI (nx (M.1 2))) : SpP l G mX11_ableLeader [.ref (A.1 0 0)] h (va_rf (if isMst M = true then oAt A 3 (M.1 27) (nx (M.1 2)) else none)) := by
  refine Sp.intro (lv := [_]) (by decide) rfl (Nat.le_of_ble_eq_true rfl) ?_
  refine wp_widen (rc' := 0) (rs' := 0) (Nat.le_refl _) (Nat.le_refl _) ?_
  refine wp_aload_n (pc := 0) dX11_ableLeader_0 rfl rfl ?_
  refine wc_VP (pc := 1) (μ2 := mX11_areMostAwake) (rc := 0) (rs := 0) [] dX11_ableLeader_1 rfl hR.bd rfl cv_X11_148_12 rfl ⟨(Nat.le_of_ble_eq_true rfl), (Nat.le_of_ble_eq_true rfl)⟩ (Nat.le_of_ble_eq_true rfl) (c_areMostAwake l G hR hb hK) ?_
  refine wp_ifB_eq (pc := 4) (tgt := 18) dX11_ableLeader_4 (by decide) (fun c4 => ?_) (fun c4 => ?_)
  · skip
    refine wp_null (pc := 18) dX11_ableLeader_18 ?_
    exact wp_aret (r := none) (pc := 19) dX11_ableLeader_19 rfl (Or.inl ⟨_, rfl⟩) ⟨by simp only [c4, if_true, if_false, Bool.true_eq_false, Bool.false_eq_true, reduceIte, reduceCtorEq, Bool.not_true, Bool.not_false, true_and, and_true, and_false, false_and, or_true, true_or, or_false, false_or, not_true_eq_false, not_false_eq_true], rfl⟩
  · skip
    refine wp_aload_n (pc := 7) dX11_ableLeader_7 rfl rfl ?_
    refine wp_aload_n (pc := 8) dX11_ableLeader_8 rfl rfl ?_
    refine wp_get (pc := 9) dX11_ableLeader_9 fl_X11_46_12 hR.bd rfl ?_
    refine wc_VP (pc := 12) (μ2 := mX11_keeperAt) (rc := 0) (rs := 0) [_] dX11_ableLeader_12 rfl hR.bd rfl cv_X11_144_12 rfl ⟨(Nat.le_of_ble_eq_true rfl), (Nat.le_of_ble_eq_true rfl)⟩ (Nat.le_of_ble_eq_true rfl) (c_keeperAt l G _ hR hb) ?_
    refine wp_goto (pc := 15) (tgt := 19) dX11_ableLeader_15 (by decide) ?_
    exact wp_aret (r := _) (pc := 19) dX11_ableLeader_19 rfl (Or.inl ⟨_, rfl⟩) ⟨by simp only [c4, if_true, if_false, Bool.true_eq_false, Bool.false_eq_true, reduceIte, reduceCtorEq, Bool.not_true, Bool.not_false, true_and, and_true, and_false, false_and, or_true, true_or, or_false, false_or, not_true_eq_false, not_false_eq_true], rfl⟩
theorem c_hasRoomFor (n : Nat) (hR : RH G hp A M h) (hb : bnd M) (hn : n ≤ 10) : SpP l G mX11_hasRoomFor [.ref (A.1 0 0), .int (nI n)] h (.int (bi (decide (nx (M.1 35) + n ≤ 400)))) := by
  refine Sp.intro (lv := [_, _]) (by decide) rfl (Nat.le_of_ble_eq_true rfl) ?_
  refine wp_widen (rc' := 0) (rs' := 0) (Nat.le_refl _) (Nat.le_refl _) ?_
  have hb9 := hb
  unfold bnd at hb9
  refine wp_aload_n (pc := 0) dX11_hasRoomFor_0 rfl rfl ?_
  refine wp_get (pc := 1) dX11_hasRoomFor_1 fl_X11_22_12 hR.bd rfl ?_
  refine wc_VP (pc := 4) (μ2 := mJx4a65c_size_8abf5) (rc := 0) (rs := 0) [] dX11_hasRoomFor_4 rfl (hR.lst (ll := 3) (by omega)) rfl cv_X11_87_0 rfl ⟨(Nat.le_of_ble_eq_true rfl), (Nat.le_of_ble_eq_true rfl)⟩ (Nat.le_of_ble_eq_true rfl) (show SpP l G mJx4a65c_size_8abf5 [_] _ (.int (nI (nx (M.1 35)))) from j_size l G _ (hR.lst (ll := 3) (by omega))) ?_
  refine wp_iload_n (pc := 7) dX11_hasRoomFor_7 rfl rfl ?_
  refine wp_iadd (pc := 8) dX11_hasRoomFor_8 ?_
  rw [nI_add]
  refine wp_sipush (pc := 9) (v := 400) dX11_hasRoomFor_9 (by decide) ?_
  refine wp_icmp_gt (pc := 12) (tgt := 19) dX11_hasRoomFor_12 (by decide) (fun c12 => ?_) (fun c12 => ?_)
  · have c9 : ¬ nx (M.1 35) + n ≤ 400 := fun z => absurd c12 (Int32.not_lt.mpr (nI_le (b := 400) z (by decide)))
    refine wp_iconst (pc := 19) (v := 0) dX11_hasRoomFor_19 (by decide) ?_
    exact wp_zret (pc := 20) dX11_hasRoomFor_20 rfl (by decide) ⟨by first | (rw [decide_eq_false c9]; rfl) | (rw [decide_eq_true c9]; rfl), rfl⟩
  · have c9 : nx (M.1 35) + n ≤ 400 := (nI_leI (b := 400) (by omega) (by decide)).mp (Int32.not_lt.mp c12)
    refine wp_iconst (pc := 15) (v := 1) dX11_hasRoomFor_15 (by decide) ?_
    refine wp_goto (pc := 16) (tgt := 20) dX11_hasRoomFor_16 (by decide) ?_
    exact wp_zret (pc := 20) dX11_hasRoomFor_20 rfl (by decide) ⟨by first | (rw [decide_eq_false c9]; rfl) | (rw [decide_eq_true c9]; rfl), rfl⟩
theorem c_grantAt (t i : Int32) (hR : RH G hp A M h) (hb : bnd M) (hT : tidy M) : SpP l G mX11_grantAt [.ref (A.1 0 0), .int t, .int i] h (va_rf (gAt A M t i)) := by
  refine Sp.intro (lv := [_, _, _, _]) (by decide) rfl (Nat.le_of_ble_eq_true rfl) ?_
  refine wp_widen (rc' := 0) (rs' := 0) (Nat.le_refl _) (Nat.le_refl _) ?_
  have hb9 := hb
  unfold bnd at hb9
  refine wp_aload_n (pc := 0) dX11_grantAt_0 rfl rfl ?_
  refine wp_iload_n (pc := 1) dX11_grantAt_1 rfl rfl ?_
  refine wc_VP (pc := 2) (μ2 := mX11_thingAt) (rc := 0) (rs := 0) [_] dX11_grantAt_2 rfl hR.bd rfl cv_X11_156_12 rfl ⟨(Nat.le_of_ble_eq_true rfl), (Nat.le_of_ble_eq_true rfl)⟩ (Nat.le_of_ble_eq_true rfl) (c_thingAt l G _ hR hb) ?_
  refine wp_astore_nQ (pc := 5) (lv' := [_, _, _, _]) dX11_grantAt_5 rfl (Nat.le_of_ble_eq_true rfl) rfl rfl ?_
  refine wp_aload_nQ (pc := 6) dX11_grantAt_6 rfl rfl ?_
  refine wp_ifnull (pc := 7) (tgt := 41) dX11_grantAt_7 (by decide) (fun c7 => ?_) (fun a7 c7 => ?_)
  · skip
    refine wp_null (pc := 41) dX11_grantAt_41 ?_
    exact wp_aret (r := none) (pc := 42) dX11_grantAt_42 rfl (Or.inl ⟨_, rfl⟩) ⟨by unfold gAt; rw [if_neg (fun z => by rw [oAt_n c7] at z; cases z.1)], rfl⟩
  · obtain ⟨j, hj, rfl, rfl⟩ := oAt_s c7 (by omega)
    rw [oAt_t hj (by omega)]
    have h20 := hT.1 j hj
    refine wp_iload_n (pc := 10) dX11_grantAt_10 rfl rfl ?_
    refine wp_iconst (pc := 11) (v := 0) dX11_grantAt_11 (by decide) ?_
    refine wp_aload_n (pc := 12) dX11_grantAt_12 rfl rfl ?_
    refine wp_getT (pc := 13) dX11_grantAt_13 ft_X11_254 (hR.th hj) rfl ?_
    refine wc_VP (pc := 16) (μ2 := mJx4a65c_size_8abf5) (rc := 0) (rs := 0) [] dX11_grantAt_16 rfl (hR.lst (ll := j + 4) (by omega)) rfl cv_X11_87_0 rfl ⟨(Nat.le_of_ble_eq_true rfl), (Nat.le_of_ble_eq_true rfl)⟩ (Nat.le_of_ble_eq_true rfl) (show SpP l G mJx4a65c_size_8abf5 [_] _ (.int (nI (nx (M.2.1 21 j)))) from j_size l G _ (hR.lst (ll := j + 4) (by omega))) ?_
    refine wp_iconst (pc := 19) (v := 1) dX11_grantAt_19 (by decide) ?_
    refine wp_isub (pc := 20) dX11_grantAt_20 ?_
    refine wc_SP (pc := 21) (μ2 := mX11_isWithin) (rc := 0) (rs := 0) [_, _, _] dX11_grantAt_21 rfl cs_X11_103 rfl ⟨(Nat.le_of_ble_eq_true rfl), (Nat.le_of_ble_eq_true rfl)⟩ (Nat.le_of_ble_eq_true rfl) (c_isWithin l G _ _ _ _) ?_
    refine wp_ifB_eq (pc := 24) (tgt := 41) dX11_grantAt_24 (by decide) (fun c24 => ?_) (fun c24 => ?_)
    · rw [fin_ix i (by omega)] at c24
      refine wp_null (pc := 41) dX11_grantAt_41 ?_
      exact wp_aret (r := none) (pc := 42) dX11_grantAt_42 rfl (Or.inl ⟨_, rfl⟩) ⟨by unfold gAt; rw [if_neg (fun z => by rw [nx_nI (show j < 2 ^ 31 by omega), c24] at z; cases z.2)], rfl⟩
    · rw [fin_ix i (by omega)] at c24
      obtain ⟨a, ha, rfl⟩ := isIx_t c24 (by omega)
      refine wp_aload_n (pc := 27) dX11_grantAt_27 rfl rfl ?_
      refine wp_getT (pc := 28) dX11_grantAt_28 ft_X11_254 (hR.th hj) rfl ?_
      refine wp_iload_n (pc := 31) dX11_grantAt_31 rfl rfl ?_
      refine wc_VP (pc := 32) (μ2 := mJx4a65c_get_915e3) (rc := 0) (rs := 0) [_] dX11_grantAt_32 rfl (hR.lst (ll := j + 4) (by omega)) rfl cv_X11_383_0 rfl ⟨(Nat.le_of_ble_eq_true rfl), (Nat.le_of_ble_eq_true rfl)⟩ (Nat.le_of_ble_eq_true rfl) (j_get l G _ (hR.lst (ll := j + 4) (by omega)) (hR.dat (by omega)) ha (hR.cap (by omega)).1 (hR.cap (by omega)).2) ?_
      refine wp_cast (pc := 35) dX11_grantAt_35 (hR.gi hT hj ha) ca_X11_262_2 ?_
      refine wp_goto (pc := 38) (tgt := 42) dX11_grantAt_38 (by decide) ?_
      exact wp_aret (r := some (A.1 8 (20 * j + a))) (pc := 42) dX11_grantAt_42 rfl (Or.inl ⟨_, rfl⟩) ⟨by unfold gAt; rw [nx_nI (show j < 2 ^ 31 by omega), if_pos ⟨isIx_nI hj (by omega), c24⟩, nx_nI (show a < 2 ^ 31 by omega)], rfl⟩
theorem c_trayAt (v : Int32) (hR : RH G hp A M h) (hb : bnd M) : SpP l G mX11_trayAt [.ref (A.1 0 0), .int v] h (va_rf (oAt A 16 v 6)) := by
  refine Sp.intro (lv := [_, _]) (by decide) rfl (Nat.le_of_ble_eq_true rfl) ?_
  refine wp_widen (rc' := 0) (rs' := 0) (Nat.le_refl _) (Nat.le_refl _) ?_
  refine wp_iload_n (pc := 0) dX11_trayAt_0 rfl rfl ?_
  refine wp_iconst (pc := 1) (v := 0) dX11_trayAt_1 (by decide) ?_
  refine wp_aload_n (pc := 2) dX11_trayAt_2 rfl rfl ?_
  refine wp_get (pc := 3) dX11_trayAt_3 fl_X11_35_12 hR.bd rfl ?_
  refine wp_alen (k := 5) (pc := 6) (by decide) dX11_trayAt_6 hR.to ?_
  refine wp_iconst (pc := 7) (v := 1) dX11_trayAt_7 (by decide) ?_
  refine wp_isub (pc := 8) dX11_trayAt_8 ?_
  refine wc_SP (pc := 9) (μ2 := mX11_isWithin) (rc := 0) (rs := 0) [_, _, _] dX11_trayAt_9 rfl cs_X11_103 rfl ⟨(Nat.le_of_ble_eq_true rfl), (Nat.le_of_ble_eq_true rfl)⟩ (Nat.le_of_ble_eq_true rfl) (c_isWithin l G _ _ _ _) ?_
  refine wp_ifB_eq (pc := 12) (tgt := 24) dX11_trayAt_12 (by decide) (fun c12 => ?_) (fun c12 => ?_)
  · rw [fin_ix v (by decide)] at c12
    refine wp_null (pc := 24) dX11_trayAt_24 ?_
    exact wp_aret (r := none) (pc := 25) dX11_trayAt_25 rfl (Or.inl ⟨_, rfl⟩) ⟨by rw [oAt_f c12], rfl⟩
  · rw [fin_ix v (by decide)] at c12
    obtain ⟨j, hj, rfl⟩ := isIx_t c12 (by decide)
    refine wp_aload_n (pc := 15) dX11_trayAt_15 rfl rfl ?_
    refine wp_get (pc := 16) dX11_trayAt_16 fl_X11_35_12 hR.bd rfl ?_
    refine wp_iload_n (pc := 19) dX11_trayAt_19 rfl rfl ?_
    refine wp_aald (pc := 20) (i := j) (Or.inr (Or.inr (Or.inl rfl))) dX11_trayAt_20 hR.to ⟨rfl, hj, by decide⟩ ?_
    rw [lstF_i _ hj]
    refine wp_goto (pc := 21) (tgt := 25) dX11_trayAt_21 (by decide) ?_
    exact wp_aret (r := some (A.1 16 j)) (pc := 25) dX11_trayAt_25 rfl (Or.inl ⟨_, rfl⟩) ⟨by rw [oAt_t hj (by decide)], rfl⟩
theorem c_isStored (s t : Int32) (hR : RH G hp A M h) (hb : bnd M) (hS : M.1 46 = nI (nx (M.1 46))) : SpP l G mX11_isStored [.ref (A.1 0 0), .int s, .int t] h (.int (bi (isIx s (nx (M.1 46)) && isIx t (nx (M.1 11))))) := by
  refine Sp.intro (lv := [_, _, _]) (by decide) rfl (Nat.le_of_ble_eq_true rfl) ?_
  refine wp_widen (rc' := 0) (rs' := 0) (Nat.le_refl _) (Nat.le_refl _) ?_
  have hb9 := hb
  unfold bnd at hb9
  refine wp_iload_n (pc := 0) dX11_isStored_0 rfl rfl ?_
  refine wp_iconst (pc := 1) (v := 0) dX11_isStored_1 (by decide) ?_
  refine wp_aload_n (pc := 2) dX11_isStored_2 rfl rfl ?_
  refine wp_get (pc := 3) dX11_isStored_3 fl_X11_39_12 hR.bd rfl ?_
  refine wp_iconst (pc := 6) (v := 1) dX11_isStored_6 (by decide) ?_
  refine wp_isub (pc := 7) dX11_isStored_7 ?_
  refine wc_SP (pc := 8) (μ2 := mX11_isWithin) (rc := 0) (rs := 0) [_, _, _] dX11_isStored_8 rfl cs_X11_103 rfl ⟨(Nat.le_of_ble_eq_true rfl), (Nat.le_of_ble_eq_true rfl)⟩ (Nat.le_of_ble_eq_true rfl) (c_isWithin l G _ _ _ _) ?_
  refine wp_ifB_eq (pc := 11) (tgt := 38) dX11_isStored_11 (by decide) (fun c11 => ?_) (fun c11 => ?_)
  · rw [hS, fin_ix s (by omega)] at c11
    refine wp_iconst (pc := 38) (v := 0) dX11_isStored_38 (by decide) ?_
    exact wp_zret (pc := 39) dX11_isStored_39 rfl (by decide) ⟨by first | (rw [c11]; rfl) | (rw [c11, oAt_n c25]; rfl) | (rw [c11, isIx_nI hj9 (by omega)]; rfl), rfl⟩
  · rw [hS, fin_ix s (by omega)] at c11
    obtain ⟨i, hi, rfl⟩ := isIx_t c11 (by omega)
    refine wp_iload_n (pc := 14) dX11_isStored_14 rfl rfl ?_
    refine wp_bipush (pc := 15) (v := 6) dX11_isStored_15 (by decide) ?_
    refine wp_icmp_ge (pc := 17) (tgt := 38) dX11_isStored_17 (by decide) (fun z => absurd z (nI_ge (b := 6) (by omega) (by decide))) (fun _ => ?_)
    refine wp_aload_n (pc := 20) dX11_isStored_20 rfl rfl ?_
    refine wp_iload_n (pc := 21) dX11_isStored_21 rfl rfl ?_
    refine wc_VP (pc := 22) (μ2 := mX11_thingAt) (rc := 0) (rs := 0) [_] dX11_isStored_22 rfl hR.bd rfl cv_X11_156_12 rfl ⟨(Nat.le_of_ble_eq_true rfl), (Nat.le_of_ble_eq_true rfl)⟩ (Nat.le_of_ble_eq_true rfl) (c_thingAt l G _ hR hb) ?_
    refine wp_ifnull (pc := 25) (tgt := 38) dX11_isStored_25 (by decide) (fun c25 => ?_) (fun a25 c25 => ?_)
    · skip
      refine wp_iconst (pc := 38) (v := 0) dX11_isStored_38 (by decide) ?_
      exact wp_zret (pc := 39) dX11_isStored_39 rfl (by decide) ⟨by first | (rw [c11]; rfl) | (rw [c11, oAt_n c25]; rfl) | (rw [c11, isIx_nI hj9 (by omega)]; rfl), rfl⟩
    · obtain ⟨j, hj9, rfl, rfl⟩ := oAt_s c25 (by omega)
      refine wp_iload_n (pc := 28) dX11_isStored_28 rfl rfl ?_
      refine wp_bipush (pc := 29) (v := 20) dX11_isStored_29 (by decide) ?_
      refine wp_icmp_ge (pc := 31) (tgt := 38) dX11_isStored_31 (by decide) (fun z => absurd z (nI_ge (b := 20) (by omega) (by decide))) (fun _ => ?_)
      refine wp_iconst (pc := 34) (v := 1) dX11_isStored_34 (by decide) ?_
      refine wp_goto (pc := 35) (tgt := 39) dX11_isStored_35 (by decide) ?_
      exact wp_zret (pc := 39) dX11_isStored_39 rfl (by decide) ⟨by first | (rw [c11]; rfl) | (rw [c11, oAt_n c25]; rfl) | (rw [c11, isIx_nI hj9 (by omega)]; rfl), rfl⟩
end K3
