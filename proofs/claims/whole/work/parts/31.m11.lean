/-! ===== the reference: forge ===== -/
section M11
variable (l : Launch) (G : WG) (x : Nat) (am : Nat → Nat) (M : MS)
theorem ms_asThing (n : Int32) (y : Nat) (hy : y < 6) (ht1 : M.2.1 54 y = 1 → ∃ t, t < 20 ∧ M.2.1 55 y = nI t) : MSp l G x am mX12_asThing [.int (nI y), .int n] M (some (.int (f_asThing M y n).1)) (f_asThing M y n).2 := by
  refine MSp.intro (lv := [_, _, _, _, _]) (by decide) rfl (Nat.le_of_ble_eq_true rfl) (fun h0 h hM hF => ?_)
  refine wp_iload_n (pc := 0) dX12_asThing_0 rfl rfl ?_
  refine wp_iconst (pc := 1) (v := 5) dX12_asThing_1 (by decide) ?_
  refine wp_irem (pc := 2) dX12_asThing_2 (by decide) ?_
  refine wp_istore_n (pc := 3) (lv' := [_, _, _, _, _]) dX12_asThing_3 rfl (Nat.le_of_ble_eq_true rfl) rfl rfl ?_
  refine wp_iload_n (pc := 4) dX12_asThing_4 rfl rfl ?_
  refine wp_if_ge (pc := 5) (tgt := 14) dX12_asThing_5 (by decide) (fun c5 => ?_) (fun c5 => ?_)
  · skip
    refine wp_iload_n (pc := 14) dX12_asThing_14 rfl rfl ?_
    refine wp_istore_n (pc := 15) (lv' := [_, _, _, _, _]) dX12_asThing_15 rfl (Nat.le_of_ble_eq_true rfl) rfl rfl ?_
    refine wp_aload_n (pc := 16) dX12_asThing_16 rfl rfl ?_
    refine wp_get (pc := 17) dX12_asThing_17 fl_X12_136_13 hM.1 rfl ?_
    refine wp_iload_n (pc := 20) dX12_asThing_20 rfl rfl ?_
    refine wp_iald (pc := 21) (i := y) dX12_asThing_21 (hM.i 54 rfl) ⟨rfl, by omega, by decide⟩ ?_
    refine wp_istore (pc := 22) (lv' := [_, _, _, _, _]) dX12_asThing_22 (Nat.le_of_ble_eq_true rfl) rfl rfl ?_
    refine wp_iload (pc := 24) dX12_asThing_24 rfl ?_
    refine wp_if_ne (pc := 26) (tgt := 36) dX12_asThing_26 (by decide) (fun c26 => ?_) (fun c26 => ?_)
    · skip
      refine wp_iload (pc := 36) dX12_asThing_36 rfl ?_
      refine wp_iconst (pc := 38) (v := 1) dX12_asThing_38 (by decide) ?_
      refine wp_icmp_ne (pc := 39) (tgt := 60) dX12_asThing_39 (by decide) (fun c39 => ?_) (fun c39 => ?_)
      · skip
        refine wp_aload_n (pc := 60) dX12_asThing_60 rfl rfl ?_
        refine wp_bipush (pc := 61) (v := 11) dX12_asThing_61 (by decide) ?_
        refine mp_call (pc := 63) [_] dX12_asThing_63 rfl cv_X12_324_13 rfl ⟨(Nat.le_of_ble_eq_true rfl), (Nat.le_of_ble_eq_true rfl)⟩ (Nat.le_of_ble_eq_true rfl) ⟨rfl, rfl⟩ (ms_refuse l G x am _ _) hM hF (fun h hM hF => ?_)
        exact wp_iret (pc := 66) dX12_asThing_66 rfl ⟨by first | (simp only [f_asThing, htx, eq_true c5, eq_false c26, eq_false c39, if_true, if_false, Bool.true_eq_false, Bool.false_eq_true, reduceIte, reduceCtorEq, Bool.not_true, Bool.not_false, true_and, and_true, and_false, false_and, or_true, true_or, or_false, false_or, not_true_eq_false, not_false_eq_true]; done) | (simp only [f_asThing, eq_true c5, eq_false c26, eq_false c39, if_true, if_false, Bool.true_eq_false, Bool.false_eq_true, reduceIte, reduceCtorEq, Bool.not_true, Bool.not_false, true_and, and_true, and_false, false_and, or_true, true_or, or_false, false_or, not_true_eq_false, not_false_eq_true]; done), by first | (simp only [f_asThing, htx, eq_true c5, eq_false c26, eq_false c39, if_true, if_false, Bool.true_eq_false, Bool.false_eq_true, reduceIte, reduceCtorEq, Bool.not_true, Bool.not_false, true_and, and_true, and_false, false_and, or_true, true_or, or_false, false_or, not_true_eq_false, not_false_eq_true] <;> exact hM) | (simp only [f_asThing, eq_true c5, eq_false c26, eq_false c39, if_true, if_false, Bool.true_eq_false, Bool.false_eq_true, reduceIte, reduceCtorEq, Bool.not_true, Bool.not_false, true_and, and_true, and_false, false_and, or_true, true_or, or_false, false_or, not_true_eq_false, not_false_eq_true] <;> exact hM), hF⟩
      · obtain ⟨t, ht, hty⟩ := ht1 c39
        have htx : nx (M.2.1 55 y) = t := by rw [hty]; exact nx_nI (by omega)
        refine wp_aload_n (pc := 42) dX12_asThing_42 rfl rfl ?_
        refine wp_get (pc := 43) dX12_asThing_43 fl_X12_32_13 hM.1 rfl ?_
        refine wp_aload_n (pc := 46) dX12_asThing_46 rfl rfl ?_
        refine wp_get (pc := 47) dX12_asThing_47 fl_X12_139_13 hM.1 rfl ?_
        refine wp_iload_n (pc := 50) dX12_asThing_50 rfl rfl ?_
        refine wp_iald (pc := 51) (i := y) dX12_asThing_51 (hM.i 55 rfl) ⟨rfl, by omega, by decide⟩ ?_
        rw [hty]
        refine wp_iald (pc := 52) (i := t) dX12_asThing_52 (hM.i 12 rfl) ⟨rfl, by omega, by decide⟩ ?_
        refine wp_iload_n (pc := 53) dX12_asThing_53 rfl rfl ?_
        refine mp_callS (pc := 54) [_, _] dX12_asThing_54 rfl cs_X12_330 rfl ⟨(Nat.le_of_ble_eq_true rfl), (Nat.le_of_ble_eq_true rfl)⟩ (Nat.le_of_ble_eq_true rfl) ⟨rfl, rfl⟩ (ms_isUnder l G _ _ h) ?_
        refine wp_ifB_ne (pc := 57) (tgt := 67) dX12_asThing_57 (by decide) (fun c57 => ?_) (fun c57 => ?_)
        · skip
          refine wp_aload_n (pc := 67) dX12_asThing_67 rfl rfl ?_
          refine wp_aload_n (pc := 68) dX12_asThing_68 rfl rfl ?_
          refine wp_get (pc := 69) dX12_asThing_69 fl_X12_35_13 hM.1 rfl ?_
          refine wp_aload_n (pc := 72) dX12_asThing_72 rfl rfl ?_
          refine wp_get (pc := 73) dX12_asThing_73 fl_X12_139_13 hM.1 rfl ?_
          refine wp_iload_n (pc := 76) dX12_asThing_76 rfl rfl ?_
          refine wp_iald (pc := 77) (i := y) dX12_asThing_77 (hM.i 55 rfl) ⟨rfl, by omega, by decide⟩ ?_
          rw [hty]
          refine wp_iald (pc := 78) (i := t) dX12_asThing_78 (hM.i 13 rfl) ⟨rfl, by omega, by decide⟩ ?_
          refine mp_call (pc := 79) [_] dX12_asThing_79 rfl cv_X12_327_13 rfl ⟨(Nat.le_of_ble_eq_true rfl), (Nat.le_of_ble_eq_true rfl)⟩ (Nat.le_of_ble_eq_true rfl) ⟨rfl, rfl⟩ (ms_done l G x am _ _) hM hF (fun h hM hF => ?_)
          exact wp_iret (pc := 82) dX12_asThing_82 rfl ⟨by first | (simp only [f_asThing, htx, eq_true c5, eq_false c26, eq_true c39, c57, if_true, if_false, Bool.true_eq_false, Bool.false_eq_true, reduceIte, reduceCtorEq, Bool.not_true, Bool.not_false, true_and, and_true, and_false, false_and, or_true, true_or, or_false, false_or, not_true_eq_false, not_false_eq_true]; done) | (simp only [f_asThing, eq_true c5, eq_false c26, eq_true c39, c57, if_true, if_false, Bool.true_eq_false, Bool.false_eq_true, reduceIte, reduceCtorEq, Bool.not_true, Bool.not_false, true_and, and_true, and_false, false_and, or_true, true_or, or_false, false_or, not_true_eq_false, not_false_eq_true]; done), by first | (simp only [f_asThing, htx, eq_true c5, eq_false c26, eq_true c39, c57, if_true, if_false, Bool.true_eq_false, Bool.false_eq_true, reduceIte, reduceCtorEq, Bool.not_true, Bool.not_false, true_and, and_true, and_false, false_and, or_true, true_or, or_false, false_or, not_true_eq_false, not_false_eq_true] <;> exact hM) | (simp only [f_asThing, eq_true c5, eq_false c26, eq_true c39, c57, if_true, if_false, Bool.true_eq_false, Bool.false_eq_true, reduceIte, reduceCtorEq, Bool.not_true, Bool.not_false, true_and, and_true, and_false, false_and, or_true, true_or, or_false, false_or, not_true_eq_false, not_false_eq_true] <;> exact hM), hF⟩
        · skip
          refine wp_aload_n (pc := 60) dX12_asThing_60 rfl rfl ?_
          refine wp_bipush (pc := 61) (v := 11) dX12_asThing_61 (by decide) ?_
          refine mp_call (pc := 63) [_] dX12_asThing_63 rfl cv_X12_324_13 rfl ⟨(Nat.le_of_ble_eq_true rfl), (Nat.le_of_ble_eq_true rfl)⟩ (Nat.le_of_ble_eq_true rfl) ⟨rfl, rfl⟩ (ms_refuse l G x am _ _) hM hF (fun h hM hF => ?_)
          exact wp_iret (pc := 66) dX12_asThing_66 rfl ⟨by first | (simp only [f_asThing, htx, eq_true c5, eq_false c26, eq_true c39, c57, if_true, if_false, Bool.true_eq_false, Bool.false_eq_true, reduceIte, reduceCtorEq, Bool.not_true, Bool.not_false, true_and, and_true, and_false, false_and, or_true, true_or, or_false, false_or, not_true_eq_false, not_false_eq_true]; done) | (simp only [f_asThing, eq_true c5, eq_false c26, eq_true c39, c57, if_true, if_false, Bool.true_eq_false, Bool.false_eq_true, reduceIte, reduceCtorEq, Bool.not_true, Bool.not_false, true_and, and_true, and_false, false_and, or_true, true_or, or_false, false_or, not_true_eq_false, not_false_eq_true]; done), by first | (simp only [f_asThing, htx, eq_true c5, eq_false c26, eq_true c39, c57, if_true, if_false, Bool.true_eq_false, Bool.false_eq_true, reduceIte, reduceCtorEq, Bool.not_true, Bool.not_false, true_and, and_true, and_false, false_and, or_true, true_or, or_false, false_or, not_true_eq_false, not_false_eq_true] <;> exact hM) | (simp only [f_asThing, eq_true c5, eq_false c26, eq_true c39, c57, if_true, if_false, Bool.true_eq_false, Bool.false_eq_true, reduceIte, reduceCtorEq, Bool.not_true, Bool.not_false, true_and, and_true, and_false, false_and, or_true, true_or, or_false, false_or, not_true_eq_false, not_false_eq_true] <;> exact hM), hF⟩
    · skip
      refine wp_aload_n (pc := 29) dX12_asThing_29 rfl rfl ?_
      refine wp_bipush (pc := 30) (v := 10) dX12_asThing_30 (by decide) ?_
      refine mp_call (pc := 32) [_] dX12_asThing_32 rfl cv_X12_324_13 rfl ⟨(Nat.le_of_ble_eq_true rfl), (Nat.le_of_ble_eq_true rfl)⟩ (Nat.le_of_ble_eq_true rfl) ⟨rfl, rfl⟩ (ms_refuse l G x am _ _) hM hF (fun h hM hF => ?_)
      exact wp_iret (pc := 35) dX12_asThing_35 rfl ⟨by first | (simp only [f_asThing, htx, eq_true c5, eq_true c26, if_true, if_false, Bool.true_eq_false, Bool.false_eq_true, reduceIte, reduceCtorEq, Bool.not_true, Bool.not_false, true_and, and_true, and_false, false_and, or_true, true_or, or_false, false_or, not_true_eq_false, not_false_eq_true]; done) | (simp only [f_asThing, eq_true c5, eq_true c26, if_true, if_false, Bool.true_eq_false, Bool.false_eq_true, reduceIte, reduceCtorEq, Bool.not_true, Bool.not_false, true_and, and_true, and_false, false_and, or_true, true_or, or_false, false_or, not_true_eq_false, not_false_eq_true]; done), by first | (simp only [f_asThing, htx, eq_true c5, eq_true c26, if_true, if_false, Bool.true_eq_false, Bool.false_eq_true, reduceIte, reduceCtorEq, Bool.not_true, Bool.not_false, true_and, and_true, and_false, false_and, or_true, true_or, or_false, false_or, not_true_eq_false, not_false_eq_true] <;> exact hM) | (simp only [f_asThing, eq_true c5, eq_true c26, if_true, if_false, Bool.true_eq_false, Bool.false_eq_true, reduceIte, reduceCtorEq, Bool.not_true, Bool.not_false, true_and, and_true, and_false, false_and, or_true, true_or, or_false, false_or, not_true_eq_false, not_false_eq_true] <;> exact hM), hF⟩
  · skip
    refine wp_iload_n (pc := 8) dX12_asThing_8 rfl rfl ?_
    refine wp_iconst (pc := 9) (v := 5) dX12_asThing_9 (by decide) ?_
    refine wp_iadd (pc := 10) dX12_asThing_10 ?_
    refine wp_goto (pc := 11) (tgt := 15) dX12_asThing_11 (by decide) ?_
    refine wp_istore_n (pc := 15) (lv' := [_, _, _, _, _]) dX12_asThing_15 rfl (Nat.le_of_ble_eq_true rfl) rfl rfl ?_
    refine wp_aload_n (pc := 16) dX12_asThing_16 rfl rfl ?_
    refine wp_get (pc := 17) dX12_asThing_17 fl_X12_136_13 hM.1 rfl ?_
    refine wp_iload_n (pc := 20) dX12_asThing_20 rfl rfl ?_
    refine wp_iald (pc := 21) (i := y) dX12_asThing_21 (hM.i 54 rfl) ⟨rfl, by omega, by decide⟩ ?_
    refine wp_istore (pc := 22) (lv' := [_, _, _, _, _]) dX12_asThing_22 (Nat.le_of_ble_eq_true rfl) rfl rfl ?_
    refine wp_iload (pc := 24) dX12_asThing_24 rfl ?_
    refine wp_if_ne (pc := 26) (tgt := 36) dX12_asThing_26 (by decide) (fun c26 => ?_) (fun c26 => ?_)
    · skip
      refine wp_iload (pc := 36) dX12_asThing_36 rfl ?_
      refine wp_iconst (pc := 38) (v := 1) dX12_asThing_38 (by decide) ?_
      refine wp_icmp_ne (pc := 39) (tgt := 60) dX12_asThing_39 (by decide) (fun c39 => ?_) (fun c39 => ?_)
      · skip
        refine wp_aload_n (pc := 60) dX12_asThing_60 rfl rfl ?_
        refine wp_bipush (pc := 61) (v := 11) dX12_asThing_61 (by decide) ?_
        refine mp_call (pc := 63) [_] dX12_asThing_63 rfl cv_X12_324_13 rfl ⟨(Nat.le_of_ble_eq_true rfl), (Nat.le_of_ble_eq_true rfl)⟩ (Nat.le_of_ble_eq_true rfl) ⟨rfl, rfl⟩ (ms_refuse l G x am _ _) hM hF (fun h hM hF => ?_)
        exact wp_iret (pc := 66) dX12_asThing_66 rfl ⟨by first | (simp only [f_asThing, htx, eq_false c5, eq_false c26, eq_false c39, if_true, if_false, Bool.true_eq_false, Bool.false_eq_true, reduceIte, reduceCtorEq, Bool.not_true, Bool.not_false, true_and, and_true, and_false, false_and, or_true, true_or, or_false, false_or, not_true_eq_false, not_false_eq_true]; done) | (simp only [f_asThing, eq_false c5, eq_false c26, eq_false c39, if_true, if_false, Bool.true_eq_false, Bool.false_eq_true, reduceIte, reduceCtorEq, Bool.not_true, Bool.not_false, true_and, and_true, and_false, false_and, or_true, true_or, or_false, false_or, not_true_eq_false, not_false_eq_true]; done), by first | (simp only [f_asThing, htx, eq_false c5, eq_false c26, eq_false c39, if_true, if_false, Bool.true_eq_false, Bool.false_eq_true, reduceIte, reduceCtorEq, Bool.not_true, Bool.not_false, true_and, and_true, and_false, false_and, or_true, true_or, or_false, false_or, not_true_eq_false, not_false_eq_true] <;> exact hM) | (simp only [f_asThing, eq_false c5, eq_false c26, eq_false c39, if_true, if_false, Bool.true_eq_false, Bool.false_eq_true, reduceIte, reduceCtorEq, Bool.not_true, Bool.not_false, true_and, and_true, and_false, false_and, or_true, true_or, or_false, false_or, not_true_eq_false, not_false_eq_true] <;> exact hM), hF⟩
      · obtain ⟨t, ht, hty⟩ := ht1 c39
        have htx : nx (M.2.1 55 y) = t := by rw [hty]; exact nx_nI (by omega)
        refine wp_aload_n (pc := 42) dX12_asThing_42 rfl rfl ?_
        refine wp_get (pc := 43) dX12_asThing_43 fl_X12_32_13 hM.1 rfl ?_
        refine wp_aload_n (pc := 46) dX12_asThing_46 rfl rfl ?_
        refine wp_get (pc := 47) dX12_asThing_47 fl_X12_139_13 hM.1 rfl ?_
        refine wp_iload_n (pc := 50) dX12_asThing_50 rfl rfl ?_
        refine wp_iald (pc := 51) (i := y) dX12_asThing_51 (hM.i 55 rfl) ⟨rfl, by omega, by decide⟩ ?_
        rw [hty]
        refine wp_iald (pc := 52) (i := t) dX12_asThing_52 (hM.i 12 rfl) ⟨rfl, by omega, by decide⟩ ?_
        refine wp_iload_n (pc := 53) dX12_asThing_53 rfl rfl ?_
        refine mp_callS (pc := 54) [_, _] dX12_asThing_54 rfl cs_X12_330 rfl ⟨(Nat.le_of_ble_eq_true rfl), (Nat.le_of_ble_eq_true rfl)⟩ (Nat.le_of_ble_eq_true rfl) ⟨rfl, rfl⟩ (ms_isUnder l G _ _ h) ?_
        refine wp_ifB_ne (pc := 57) (tgt := 67) dX12_asThing_57 (by decide) (fun c57 => ?_) (fun c57 => ?_)
        · skip
          refine wp_aload_n (pc := 67) dX12_asThing_67 rfl rfl ?_
          refine wp_aload_n (pc := 68) dX12_asThing_68 rfl rfl ?_
          refine wp_get (pc := 69) dX12_asThing_69 fl_X12_35_13 hM.1 rfl ?_
          refine wp_aload_n (pc := 72) dX12_asThing_72 rfl rfl ?_
          refine wp_get (pc := 73) dX12_asThing_73 fl_X12_139_13 hM.1 rfl ?_
          refine wp_iload_n (pc := 76) dX12_asThing_76 rfl rfl ?_
          refine wp_iald (pc := 77) (i := y) dX12_asThing_77 (hM.i 55 rfl) ⟨rfl, by omega, by decide⟩ ?_
          rw [hty]
          refine wp_iald (pc := 78) (i := t) dX12_asThing_78 (hM.i 13 rfl) ⟨rfl, by omega, by decide⟩ ?_
          refine mp_call (pc := 79) [_] dX12_asThing_79 rfl cv_X12_327_13 rfl ⟨(Nat.le_of_ble_eq_true rfl), (Nat.le_of_ble_eq_true rfl)⟩ (Nat.le_of_ble_eq_true rfl) ⟨rfl, rfl⟩ (ms_done l G x am _ _) hM hF (fun h hM hF => ?_)
          exact wp_iret (pc := 82) dX12_asThing_82 rfl ⟨by first | (simp only [f_asThing, htx, eq_false c5, eq_false c26, eq_true c39, c57, if_true, if_false, Bool.true_eq_false, Bool.false_eq_true, reduceIte, reduceCtorEq, Bool.not_true, Bool.not_false, true_and, and_true, and_false, false_and, or_true, true_or, or_false, false_or, not_true_eq_false, not_false_eq_true]; done) | (simp only [f_asThing, eq_false c5, eq_false c26, eq_true c39, c57, if_true, if_false, Bool.true_eq_false, Bool.false_eq_true, reduceIte, reduceCtorEq, Bool.not_true, Bool.not_false, true_and, and_true, and_false, false_and, or_true, true_or, or_false, false_or, not_true_eq_false, not_false_eq_true]; done), by first | (simp only [f_asThing, htx, eq_false c5, eq_false c26, eq_true c39, c57, if_true, if_false, Bool.true_eq_false, Bool.false_eq_true, reduceIte, reduceCtorEq, Bool.not_true, Bool.not_false, true_and, and_true, and_false, false_and, or_true, true_or, or_false, false_or, not_true_eq_false, not_false_eq_true] <;> exact hM) | (simp only [f_asThing, eq_false c5, eq_false c26, eq_true c39, c57, if_true, if_false, Bool.true_eq_false, Bool.false_eq_true, reduceIte, reduceCtorEq, Bool.not_true, Bool.not_false, true_and, and_true, and_false, false_and, or_true, true_or, or_false, false_or, not_true_eq_false, not_false_eq_true] <;> exact hM), hF⟩
        · skip
          refine wp_aload_n (pc := 60) dX12_asThing_60 rfl rfl ?_
          refine wp_bipush (pc := 61) (v := 11) dX12_asThing_61 (by decide) ?_
          refine mp_call (pc := 63) [_] dX12_asThing_63 rfl cv_X12_324_13 rfl ⟨(Nat.le_of_ble_eq_true rfl), (Nat.le_of_ble_eq_true rfl)⟩ (Nat.le_of_ble_eq_true rfl) ⟨rfl, rfl⟩ (ms_refuse l G x am _ _) hM hF (fun h hM hF => ?_)
          exact wp_iret (pc := 66) dX12_asThing_66 rfl ⟨by first | (simp only [f_asThing, htx, eq_false c5, eq_false c26, eq_true c39, c57, if_true, if_false, Bool.true_eq_false, Bool.false_eq_true, reduceIte, reduceCtorEq, Bool.not_true, Bool.not_false, true_and, and_true, and_false, false_and, or_true, true_or, or_false, false_or, not_true_eq_false, not_false_eq_true]; done) | (simp only [f_asThing, eq_false c5, eq_false c26, eq_true c39, c57, if_true, if_false, Bool.true_eq_false, Bool.false_eq_true, reduceIte, reduceCtorEq, Bool.not_true, Bool.not_false, true_and, and_true, and_false, false_and, or_true, true_or, or_false, false_or, not_true_eq_false, not_false_eq_true]; done), by first | (simp only [f_asThing, htx, eq_false c5, eq_false c26, eq_true c39, c57, if_true, if_false, Bool.true_eq_false, Bool.false_eq_true, reduceIte, reduceCtorEq, Bool.not_true, Bool.not_false, true_and, and_true, and_false, false_and, or_true, true_or, or_false, false_or, not_true_eq_false, not_false_eq_true] <;> exact hM) | (simp only [f_asThing, eq_false c5, eq_false c26, eq_true c39, c57, if_true, if_false, Bool.true_eq_false, Bool.false_eq_true, reduceIte, reduceCtorEq, Bool.not_true, Bool.not_false, true_and, and_true, and_false, false_and, or_true, true_or, or_false, false_or, not_true_eq_false, not_false_eq_true] <;> exact hM), hF⟩
    · skip
      refine wp_aload_n (pc := 29) dX12_asThing_29 rfl rfl ?_
      refine wp_bipush (pc := 30) (v := 10) dX12_asThing_30 (by decide) ?_
      refine mp_call (pc := 32) [_] dX12_asThing_32 rfl cv_X12_324_13 rfl ⟨(Nat.le_of_ble_eq_true rfl), (Nat.le_of_ble_eq_true rfl)⟩ (Nat.le_of_ble_eq_true rfl) ⟨rfl, rfl⟩ (ms_refuse l G x am _ _) hM hF (fun h hM hF => ?_)
      exact wp_iret (pc := 35) dX12_asThing_35 rfl ⟨by first | (simp only [f_asThing, htx, eq_false c5, eq_true c26, if_true, if_false, Bool.true_eq_false, Bool.false_eq_true, reduceIte, reduceCtorEq, Bool.not_true, Bool.not_false, true_and, and_true, and_false, false_and, or_true, true_or, or_false, false_or, not_true_eq_false, not_false_eq_true]; done) | (simp only [f_asThing, eq_false c5, eq_true c26, if_true, if_false, Bool.true_eq_false, Bool.false_eq_true, reduceIte, reduceCtorEq, Bool.not_true, Bool.not_false, true_and, and_true, and_false, false_and, or_true, true_or, or_false, false_or, not_true_eq_false, not_false_eq_true]; done), by first | (simp only [f_asThing, htx, eq_false c5, eq_true c26, if_true, if_false, Bool.true_eq_false, Bool.false_eq_true, reduceIte, reduceCtorEq, Bool.not_true, Bool.not_false, true_and, and_true, and_false, false_and, or_true, true_or, or_false, false_or, not_true_eq_false, not_false_eq_true] <;> exact hM) | (simp only [f_asThing, eq_false c5, eq_true c26, if_true, if_false, Bool.true_eq_false, Bool.false_eq_true, reduceIte, reduceCtorEq, Bool.not_true, Bool.not_false, true_and, and_true, and_false, false_and, or_true, true_or, or_false, false_or, not_true_eq_false, not_false_eq_true] <;> exact hM), hF⟩
theorem ms_laid  (y : Nat) (hy : y < 6) (ht1 : M.2.1 54 y = 1 → ∃ t, t < 20 ∧ M.2.1 55 y = nI t) : MSp l G x am mX12_laid [.int (nI y)] M (some (.int (f_laid M y).1)) (f_laid M y).2 := by
  refine MSp.intro (lv := [_, _, _]) (by decide) rfl (Nat.le_of_ble_eq_true rfl) (fun h0 h hM hF => ?_)
  refine wp_aload_n (pc := 0) dX12_laid_0 rfl rfl ?_
  refine wp_get (pc := 1) dX12_laid_1 fl_X12_136_13 hM.1 rfl ?_
  refine wp_iload_n (pc := 4) dX12_laid_4 rfl rfl ?_
  refine wp_iald (pc := 5) (i := y) dX12_laid_5 (hM.i 54 rfl) ⟨rfl, by omega, by decide⟩ ?_
  refine wp_istore_n (pc := 6) (lv' := [_, _, _]) dX12_laid_6 rfl (Nat.le_of_ble_eq_true rfl) rfl rfl ?_
  refine wp_iload_n (pc := 7) dX12_laid_7 rfl rfl ?_
  refine wp_if_ne (pc := 8) (tgt := 17) dX12_laid_8 (by decide) (fun c8 => ?_) (fun c8 => ?_)
  · skip
    refine wp_iload_n (pc := 17) dX12_laid_17 rfl rfl ?_
    refine wp_iconst (pc := 18) (v := 1) dX12_laid_18 (by decide) ?_
    refine wp_icmp_ne (pc := 19) (tgt := 40) dX12_laid_19 (by decide) (fun c19 => ?_) (fun c19 => ?_)
    · skip
      refine wp_aload_n (pc := 40) dX12_laid_40 rfl rfl ?_
      refine wp_bipush (pc := 41) (v := 14) dX12_laid_41 (by decide) ?_
      refine mp_call (pc := 43) [_] dX12_laid_43 rfl cv_X12_324_13 rfl ⟨(Nat.le_of_ble_eq_true rfl), (Nat.le_of_ble_eq_true rfl)⟩ (Nat.le_of_ble_eq_true rfl) ⟨rfl, rfl⟩ (ms_refuse l G x am _ _) hM hF (fun h hM hF => ?_)
      exact wp_iret (pc := 46) dX12_laid_46 rfl ⟨by first | (simp only [f_laid, htx, eq_false c8, eq_false c19, if_true, if_false, Bool.true_eq_false, Bool.false_eq_true, reduceIte, reduceCtorEq, Bool.not_true, Bool.not_false, true_and, and_true, and_false, false_and, or_true, true_or, or_false, false_or, not_true_eq_false, not_false_eq_true]; done) | (simp only [f_laid, eq_false c8, eq_false c19, if_true, if_false, Bool.true_eq_false, Bool.false_eq_true, reduceIte, reduceCtorEq, Bool.not_true, Bool.not_false, true_and, and_true, and_false, false_and, or_true, true_or, or_false, false_or, not_true_eq_false, not_false_eq_true]; done), by first | (simp only [f_laid, htx, eq_false c8, eq_false c19, if_true, if_false, Bool.true_eq_false, Bool.false_eq_true, reduceIte, reduceCtorEq, Bool.not_true, Bool.not_false, true_and, and_true, and_false, false_and, or_true, true_or, or_false, false_or, not_true_eq_false, not_false_eq_true] <;> exact hM) | (simp only [f_laid, eq_false c8, eq_false c19, if_true, if_false, Bool.true_eq_false, Bool.false_eq_true, reduceIte, reduceCtorEq, Bool.not_true, Bool.not_false, true_and, and_true, and_false, false_and, or_true, true_or, or_false, false_or, not_true_eq_false, not_false_eq_true] <;> exact hM), hF⟩
    · obtain ⟨t, ht, hty⟩ := ht1 c19
      have htx : nx (M.2.1 55 y) = t := by rw [hty]; exact nx_nI (by omega)
      refine wp_aload_n (pc := 22) dX12_laid_22 rfl rfl ?_
      refine wp_get (pc := 23) dX12_laid_23 fl_X12_32_13 hM.1 rfl ?_
      refine wp_aload_n (pc := 26) dX12_laid_26 rfl rfl ?_
      refine wp_get (pc := 27) dX12_laid_27 fl_X12_139_13 hM.1 rfl ?_
      refine wp_iload_n (pc := 30) dX12_laid_30 rfl rfl ?_
      refine wp_iald (pc := 31) (i := y) dX12_laid_31 (hM.i 55 rfl) ⟨rfl, by omega, by decide⟩ ?_
      rw [hty]
      refine wp_iald (pc := 32) (i := t) dX12_laid_32 (hM.i 12 rfl) ⟨rfl, by omega, by decide⟩ ?_
      refine wp_iconst (pc := 33) (v := 1) dX12_laid_33 (by decide) ?_
      refine mp_callS (pc := 34) [_, _] dX12_laid_34 rfl cs_X12_330 rfl ⟨(Nat.le_of_ble_eq_true rfl), (Nat.le_of_ble_eq_true rfl)⟩ (Nat.le_of_ble_eq_true rfl) ⟨rfl, rfl⟩ (ms_isUnder l G _ _ h) ?_
      refine wp_ifB_ne (pc := 37) (tgt := 47) dX12_laid_37 (by decide) (fun c37 => ?_) (fun c37 => ?_)
      · skip
        refine wp_aload_n (pc := 47) dX12_laid_47 rfl rfl ?_
        refine wp_aload_n (pc := 48) dX12_laid_48 rfl rfl ?_
        refine wp_get (pc := 49) dX12_laid_49 fl_X12_35_13 hM.1 rfl ?_
        refine wp_aload_n (pc := 52) dX12_laid_52 rfl rfl ?_
        refine wp_get (pc := 53) dX12_laid_53 fl_X12_139_13 hM.1 rfl ?_
        refine wp_iload_n (pc := 56) dX12_laid_56 rfl rfl ?_
        refine wp_iald (pc := 57) (i := y) dX12_laid_57 (hM.i 55 rfl) ⟨rfl, by omega, by decide⟩ ?_
        rw [hty]
        refine wp_iald (pc := 58) (i := t) dX12_laid_58 (hM.i 13 rfl) ⟨rfl, by omega, by decide⟩ ?_
        refine mp_call (pc := 59) [_] dX12_laid_59 rfl cv_X12_327_13 rfl ⟨(Nat.le_of_ble_eq_true rfl), (Nat.le_of_ble_eq_true rfl)⟩ (Nat.le_of_ble_eq_true rfl) ⟨rfl, rfl⟩ (ms_done l G x am _ _) hM hF (fun h hM hF => ?_)
        exact wp_iret (pc := 62) dX12_laid_62 rfl ⟨by first | (simp only [f_laid, htx, eq_false c8, eq_true c19, c37, if_true, if_false, Bool.true_eq_false, Bool.false_eq_true, reduceIte, reduceCtorEq, Bool.not_true, Bool.not_false, true_and, and_true, and_false, false_and, or_true, true_or, or_false, false_or, not_true_eq_false, not_false_eq_true]; done) | (simp only [f_laid, eq_false c8, eq_true c19, c37, if_true, if_false, Bool.true_eq_false, Bool.false_eq_true, reduceIte, reduceCtorEq, Bool.not_true, Bool.not_false, true_and, and_true, and_false, false_and, or_true, true_or, or_false, false_or, not_true_eq_false, not_false_eq_true]; done), by first | (simp only [f_laid, htx, eq_false c8, eq_true c19, c37, if_true, if_false, Bool.true_eq_false, Bool.false_eq_true, reduceIte, reduceCtorEq, Bool.not_true, Bool.not_false, true_and, and_true, and_false, false_and, or_true, true_or, or_false, false_or, not_true_eq_false, not_false_eq_true] <;> exact hM) | (simp only [f_laid, eq_false c8, eq_true c19, c37, if_true, if_false, Bool.true_eq_false, Bool.false_eq_true, reduceIte, reduceCtorEq, Bool.not_true, Bool.not_false, true_and, and_true, and_false, false_and, or_true, true_or, or_false, false_or, not_true_eq_false, not_false_eq_true] <;> exact hM), hF⟩
      · skip
        refine wp_aload_n (pc := 40) dX12_laid_40 rfl rfl ?_
        refine wp_bipush (pc := 41) (v := 14) dX12_laid_41 (by decide) ?_
        refine mp_call (pc := 43) [_] dX12_laid_43 rfl cv_X12_324_13 rfl ⟨(Nat.le_of_ble_eq_true rfl), (Nat.le_of_ble_eq_true rfl)⟩ (Nat.le_of_ble_eq_true rfl) ⟨rfl, rfl⟩ (ms_refuse l G x am _ _) hM hF (fun h hM hF => ?_)
        exact wp_iret (pc := 46) dX12_laid_46 rfl ⟨by first | (simp only [f_laid, htx, eq_false c8, eq_true c19, c37, if_true, if_false, Bool.true_eq_false, Bool.false_eq_true, reduceIte, reduceCtorEq, Bool.not_true, Bool.not_false, true_and, and_true, and_false, false_and, or_true, true_or, or_false, false_or, not_true_eq_false, not_false_eq_true]; done) | (simp only [f_laid, eq_false c8, eq_true c19, c37, if_true, if_false, Bool.true_eq_false, Bool.false_eq_true, reduceIte, reduceCtorEq, Bool.not_true, Bool.not_false, true_and, and_true, and_false, false_and, or_true, true_or, or_false, false_or, not_true_eq_false, not_false_eq_true]; done), by first | (simp only [f_laid, htx, eq_false c8, eq_true c19, c37, if_true, if_false, Bool.true_eq_false, Bool.false_eq_true, reduceIte, reduceCtorEq, Bool.not_true, Bool.not_false, true_and, and_true, and_false, false_and, or_true, true_or, or_false, false_or, not_true_eq_false, not_false_eq_true] <;> exact hM) | (simp only [f_laid, eq_false c8, eq_true c19, c37, if_true, if_false, Bool.true_eq_false, Bool.false_eq_true, reduceIte, reduceCtorEq, Bool.not_true, Bool.not_false, true_and, and_true, and_false, false_and, or_true, true_or, or_false, false_or, not_true_eq_false, not_false_eq_true] <;> exact hM), hF⟩
  · skip
    refine wp_aload_n (pc := 11) dX12_laid_11 rfl rfl ?_
    refine wp_iconst (pc := 12) (v := 0) dX12_laid_12 (by decide) ?_
    refine mp_call (pc := 13) [_] dX12_laid_13 rfl cv_X12_327_13 rfl ⟨(Nat.le_of_ble_eq_true rfl), (Nat.le_of_ble_eq_true rfl)⟩ (Nat.le_of_ble_eq_true rfl) ⟨rfl, rfl⟩ (ms_done l G x am _ _) hM hF (fun h hM hF => ?_)
    exact wp_iret (pc := 16) dX12_laid_16 rfl ⟨by first | (simp only [f_laid, htx, eq_true c8, if_true, if_false, Bool.true_eq_false, Bool.false_eq_true, reduceIte, reduceCtorEq, Bool.not_true, Bool.not_false, true_and, and_true, and_false, false_and, or_true, true_or, or_false, false_or, not_true_eq_false, not_false_eq_true]; done) | (simp only [f_laid, eq_true c8, if_true, if_false, Bool.true_eq_false, Bool.false_eq_true, reduceIte, reduceCtorEq, Bool.not_true, Bool.not_false, true_and, and_true, and_false, false_and, or_true, true_or, or_false, false_or, not_true_eq_false, not_false_eq_true]; done), by first | (simp only [f_laid, htx, eq_true c8, if_true, if_false, Bool.true_eq_false, Bool.false_eq_true, reduceIte, reduceCtorEq, Bool.not_true, Bool.not_false, true_and, and_true, and_false, false_and, or_true, true_or, or_false, false_or, not_true_eq_false, not_false_eq_true] <;> exact hM) | (simp only [f_laid, eq_true c8, if_true, if_false, Bool.true_eq_false, Bool.false_eq_true, reduceIte, reduceCtorEq, Bool.not_true, Bool.not_false, true_and, and_true, and_false, false_and, or_true, true_or, or_false, false_or, not_true_eq_false, not_false_eq_true] <;> exact hM), hF⟩
theorem ms_asLetter (n : Int32) (y : Nat) (hy : y < 6) (ht1 : M.2.1 54 y = 2 → ∃ t, t < 400 ∧ M.2.1 55 y = nI t) : MSp l G x am mX12_asLetter [.int (nI y), .int n] M (some (.int (f_asLetter M y n).1)) (f_asLetter M y n).2 := by
  refine MSp.intro (lv := [_, _, _, _]) (by decide) rfl (Nat.le_of_ble_eq_true rfl) (fun h0 h hM hF => ?_)
  refine wp_aload_n (pc := 0) dX12_asLetter_0 rfl rfl ?_
  refine wp_get (pc := 1) dX12_asLetter_1 fl_X12_136_13 hM.1 rfl ?_
  refine wp_iload_n (pc := 4) dX12_asLetter_4 rfl rfl ?_
  refine wp_iald (pc := 5) (i := y) dX12_asLetter_5 (hM.i 54 rfl) ⟨rfl, by omega, by decide⟩ ?_
  refine wp_istore_n (pc := 6) (lv' := [_, _, _, _]) dX12_asLetter_6 rfl (Nat.le_of_ble_eq_true rfl) rfl rfl ?_
  refine wp_iload_n (pc := 7) dX12_asLetter_7 rfl rfl ?_
  refine wp_if_ne (pc := 8) (tgt := 18) dX12_asLetter_8 (by decide) (fun c8 => ?_) (fun c8 => ?_)
  · skip
    refine wp_iload_n (pc := 18) dX12_asLetter_18 rfl rfl ?_
    refine wp_iconst (pc := 19) (v := 2) dX12_asLetter_19 (by decide) ?_
    refine wp_icmp_ne (pc := 20) (tgt := 57) dX12_asLetter_20 (by decide) (fun c20 => ?_) (fun c20 => ?_)
    · skip
      refine wp_aload_n (pc := 57) dX12_asLetter_57 rfl rfl ?_
      refine wp_bipush (pc := 58) (v := 11) dX12_asLetter_58 (by decide) ?_
      refine mp_call (pc := 60) [_] dX12_asLetter_60 rfl cv_X12_324_13 rfl ⟨(Nat.le_of_ble_eq_true rfl), (Nat.le_of_ble_eq_true rfl)⟩ (Nat.le_of_ble_eq_true rfl) ⟨rfl, rfl⟩ (ms_refuse l G x am _ _) hM hF (fun h hM hF => ?_)
      exact wp_iret (pc := 63) dX12_asLetter_63 rfl ⟨by first | (simp only [f_asLetter, htx, eq_false c8, eq_false c20, if_true, if_false, Bool.true_eq_false, Bool.false_eq_true, reduceIte, reduceCtorEq, Bool.not_true, Bool.not_false, true_and, and_true, and_false, false_and, or_true, true_or, or_false, false_or, not_true_eq_false, not_false_eq_true]; done) | (simp only [f_asLetter, eq_false c8, eq_false c20, if_true, if_false, Bool.true_eq_false, Bool.false_eq_true, reduceIte, reduceCtorEq, Bool.not_true, Bool.not_false, true_and, and_true, and_false, false_and, or_true, true_or, or_false, false_or, not_true_eq_false, not_false_eq_true]; done), by first | (simp only [f_asLetter, htx, eq_false c8, eq_false c20, if_true, if_false, Bool.true_eq_false, Bool.false_eq_true, reduceIte, reduceCtorEq, Bool.not_true, Bool.not_false, true_and, and_true, and_false, false_and, or_true, true_or, or_false, false_or, not_true_eq_false, not_false_eq_true] <;> exact hM) | (simp only [f_asLetter, eq_false c8, eq_false c20, if_true, if_false, Bool.true_eq_false, Bool.false_eq_true, reduceIte, reduceCtorEq, Bool.not_true, Bool.not_false, true_and, and_true, and_false, false_and, or_true, true_or, or_false, false_or, not_true_eq_false, not_false_eq_true] <;> exact hM), hF⟩
    · obtain ⟨t, ht, hty⟩ := ht1 c20
      have htx : nx (M.2.1 55 y) = t := by rw [hty]; exact nx_nI (by omega)
      refine wp_aload_n (pc := 23) dX12_asLetter_23 rfl rfl ?_
      refine wp_get (pc := 24) dX12_asLetter_24 fl_X12_100_13 hM.1 rfl ?_
      refine wp_aload_n (pc := 27) dX12_asLetter_27 rfl rfl ?_
      refine wp_get (pc := 28) dX12_asLetter_28 fl_X12_139_13 hM.1 rfl ?_
      refine wp_iload_n (pc := 31) dX12_asLetter_31 rfl rfl ?_
      refine wp_iald (pc := 32) (i := y) dX12_asLetter_32 (hM.i 55 rfl) ⟨rfl, by omega, by decide⟩ ?_
      rw [hty]
      refine wp_iald (pc := 33) (i := t) dX12_asLetter_33 (hM.i 36 rfl) ⟨rfl, by omega, by decide⟩ ?_
      refine wp_iconst (pc := 34) (v := 4) dX12_asLetter_34 (by decide) ?_
      refine wp_icmp_ge (pc := 35) (tgt := 42) dX12_asLetter_35 (by decide) (fun c35 => ?_) (fun c35 => ?_)
      · skip
        refine wp_iconst (pc := 42) (v := 0) dX12_asLetter_42 (by decide) ?_
        refine wp_iload_n (pc := 43) dX12_asLetter_43 rfl rfl ?_
        refine wp_iconst (pc := 44) (v := 2) dX12_asLetter_44 (by decide) ?_
        refine wp_irem (pc := 45) dX12_asLetter_45 (by decide) ?_
        refine wp_if_ne (pc := 46) (tgt := 53) dX12_asLetter_46 (by decide) (fun c46 => ?_) (fun c46 => ?_)
        · skip
          refine wp_iconst (pc := 53) (v := 0) dX12_asLetter_53 (by decide) ?_
          refine wp_icmp_eq (pc := 54) (tgt := 64) dX12_asLetter_54 (by decide) (fun c54 => ?_) (fun c54 => ?_)
          · skip
            refine wp_aload_n (pc := 64) dX12_asLetter_64 rfl rfl ?_
            refine wp_aload_n (pc := 65) dX12_asLetter_65 rfl rfl ?_
            refine wp_get (pc := 66) dX12_asLetter_66 fl_X12_109_13 hM.1 rfl ?_
            refine wp_aload_n (pc := 69) dX12_asLetter_69 rfl rfl ?_
            refine wp_get (pc := 70) dX12_asLetter_70 fl_X12_139_13 hM.1 rfl ?_
            refine wp_iload_n (pc := 73) dX12_asLetter_73 rfl rfl ?_
            refine wp_iald (pc := 74) (i := y) dX12_asLetter_74 (hM.i 55 rfl) ⟨rfl, by omega, by decide⟩ ?_
            rw [hty]
            refine wp_iald (pc := 75) (i := t) dX12_asLetter_75 (hM.i 39 rfl) ⟨rfl, by omega, by decide⟩ ?_
            refine mp_call (pc := 76) [_] dX12_asLetter_76 rfl cv_X12_327_13 rfl ⟨(Nat.le_of_ble_eq_true rfl), (Nat.le_of_ble_eq_true rfl)⟩ (Nat.le_of_ble_eq_true rfl) ⟨rfl, rfl⟩ (ms_done l G x am _ _) hM hF (fun h hM hF => ?_)
            exact wp_iret (pc := 79) dX12_asLetter_79 rfl ⟨by first | (simp only [f_asLetter, htx, eq_false c8, eq_true c20, eq_true c35, eq_false c46, eq_true c54, if_true, if_false, Bool.true_eq_false, Bool.false_eq_true, reduceIte, reduceCtorEq, Bool.not_true, Bool.not_false, true_and, and_true, and_false, false_and, or_true, true_or, or_false, false_or, not_true_eq_false, not_false_eq_true]; done) | (simp only [f_asLetter, eq_false c8, eq_true c20, eq_true c35, eq_false c46, eq_true c54, if_true, if_false, Bool.true_eq_false, Bool.false_eq_true, reduceIte, reduceCtorEq, Bool.not_true, Bool.not_false, true_and, and_true, and_false, false_and, or_true, true_or, or_false, false_or, not_true_eq_false, not_false_eq_true]; done), by first | (simp only [f_asLetter, htx, eq_false c8, eq_true c20, eq_true c35, eq_false c46, eq_true c54, if_true, if_false, Bool.true_eq_false, Bool.false_eq_true, reduceIte, reduceCtorEq, Bool.not_true, Bool.not_false, true_and, and_true, and_false, false_and, or_true, true_or, or_false, false_or, not_true_eq_false, not_false_eq_true] <;> exact hM) | (simp only [f_asLetter, eq_false c8, eq_true c20, eq_true c35, eq_false c46, eq_true c54, if_true, if_false, Bool.true_eq_false, Bool.false_eq_true, reduceIte, reduceCtorEq, Bool.not_true, Bool.not_false, true_and, and_true, and_false, false_and, or_true, true_or, or_false, false_or, not_true_eq_false, not_false_eq_true] <;> exact hM), hF⟩
          · skip
            refine wp_aload_n (pc := 57) dX12_asLetter_57 rfl rfl ?_
            refine wp_bipush (pc := 58) (v := 11) dX12_asLetter_58 (by decide) ?_
            refine mp_call (pc := 60) [_] dX12_asLetter_60 rfl cv_X12_324_13 rfl ⟨(Nat.le_of_ble_eq_true rfl), (Nat.le_of_ble_eq_true rfl)⟩ (Nat.le_of_ble_eq_true rfl) ⟨rfl, rfl⟩ (ms_refuse l G x am _ _) hM hF (fun h hM hF => ?_)
            first | exact absurd rfl c54 | exact wp_iret (pc := 63) dX12_asLetter_63 rfl ⟨by first | (simp only [f_asLetter, htx, eq_false c8, eq_true c20, eq_true c35, eq_false c46, eq_false c54, if_true, if_false, Bool.true_eq_false, Bool.false_eq_true, reduceIte, reduceCtorEq, Bool.not_true, Bool.not_false, true_and, and_true, and_false, false_and, or_true, true_or, or_false, false_or, not_true_eq_false, not_false_eq_true]; done) | (simp only [f_asLetter, eq_false c8, eq_true c20, eq_true c35, eq_false c46, eq_false c54, if_true, if_false, Bool.true_eq_false, Bool.false_eq_true, reduceIte, reduceCtorEq, Bool.not_true, Bool.not_false, true_and, and_true, and_false, false_and, or_true, true_or, or_false, false_or, not_true_eq_false, not_false_eq_true]; done), by first | (simp only [f_asLetter, htx, eq_false c8, eq_true c20, eq_true c35, eq_false c46, eq_false c54, if_true, if_false, Bool.true_eq_false, Bool.false_eq_true, reduceIte, reduceCtorEq, Bool.not_true, Bool.not_false, true_and, and_true, and_false, false_and, or_true, true_or, or_false, false_or, not_true_eq_false, not_false_eq_true] <;> exact hM) | (simp only [f_asLetter, eq_false c8, eq_true c20, eq_true c35, eq_false c46, eq_false c54, if_true, if_false, Bool.true_eq_false, Bool.false_eq_true, reduceIte, reduceCtorEq, Bool.not_true, Bool.not_false, true_and, and_true, and_false, false_and, or_true, true_or, or_false, false_or, not_true_eq_false, not_false_eq_true] <;> exact hM), hF⟩
        · skip
          refine wp_iconst (pc := 49) (v := 1) dX12_asLetter_49 (by decide) ?_
          refine wp_goto (pc := 50) (tgt := 54) dX12_asLetter_50 (by decide) ?_
          refine wp_icmp_eq (pc := 54) (tgt := 64) dX12_asLetter_54 (by decide) (fun c54 => ?_) (fun c54 => ?_)
          · skip
            refine wp_aload_n (pc := 64) dX12_asLetter_64 rfl rfl ?_
            refine wp_aload_n (pc := 65) dX12_asLetter_65 rfl rfl ?_
            refine wp_get (pc := 66) dX12_asLetter_66 fl_X12_109_13 hM.1 rfl ?_
            refine wp_aload_n (pc := 69) dX12_asLetter_69 rfl rfl ?_
            refine wp_get (pc := 70) dX12_asLetter_70 fl_X12_139_13 hM.1 rfl ?_
            refine wp_iload_n (pc := 73) dX12_asLetter_73 rfl rfl ?_
            refine wp_iald (pc := 74) (i := y) dX12_asLetter_74 (hM.i 55 rfl) ⟨rfl, by omega, by decide⟩ ?_
            rw [hty]
            refine wp_iald (pc := 75) (i := t) dX12_asLetter_75 (hM.i 39 rfl) ⟨rfl, by omega, by decide⟩ ?_
            refine mp_call (pc := 76) [_] dX12_asLetter_76 rfl cv_X12_327_13 rfl ⟨(Nat.le_of_ble_eq_true rfl), (Nat.le_of_ble_eq_true rfl)⟩ (Nat.le_of_ble_eq_true rfl) ⟨rfl, rfl⟩ (ms_done l G x am _ _) hM hF (fun h hM hF => ?_)
            exact wp_iret (pc := 79) dX12_asLetter_79 rfl ⟨by first | (simp only [f_asLetter, htx, eq_false c8, eq_true c20, eq_true c35, eq_true c46, eq_true c54, if_true, if_false, Bool.true_eq_false, Bool.false_eq_true, reduceIte, reduceCtorEq, Bool.not_true, Bool.not_false, true_and, and_true, and_false, false_and, or_true, true_or, or_false, false_or, not_true_eq_false, not_false_eq_true]; done) | (simp only [f_asLetter, eq_false c8, eq_true c20, eq_true c35, eq_true c46, eq_true c54, if_true, if_false, Bool.true_eq_false, Bool.false_eq_true, reduceIte, reduceCtorEq, Bool.not_true, Bool.not_false, true_and, and_true, and_false, false_and, or_true, true_or, or_false, false_or, not_true_eq_false, not_false_eq_true]; done), by first | (simp only [f_asLetter, htx, eq_false c8, eq_true c20, eq_true c35, eq_true c46, eq_true c54, if_true, if_false, Bool.true_eq_false, Bool.false_eq_true, reduceIte, reduceCtorEq, Bool.not_true, Bool.not_false, true_and, and_true, and_false, false_and, or_true, true_or, or_false, false_or, not_true_eq_false, not_false_eq_true] <;> exact hM) | (simp only [f_asLetter, eq_false c8, eq_true c20, eq_true c35, eq_true c46, eq_true c54, if_true, if_false, Bool.true_eq_false, Bool.false_eq_true, reduceIte, reduceCtorEq, Bool.not_true, Bool.not_false, true_and, and_true, and_false, false_and, or_true, true_or, or_false, false_or, not_true_eq_false, not_false_eq_true] <;> exact hM), hF⟩
          · skip
            refine wp_aload_n (pc := 57) dX12_asLetter_57 rfl rfl ?_
            refine wp_bipush (pc := 58) (v := 11) dX12_asLetter_58 (by decide) ?_
            refine mp_call (pc := 60) [_] dX12_asLetter_60 rfl cv_X12_324_13 rfl ⟨(Nat.le_of_ble_eq_true rfl), (Nat.le_of_ble_eq_true rfl)⟩ (Nat.le_of_ble_eq_true rfl) ⟨rfl, rfl⟩ (ms_refuse l G x am _ _) hM hF (fun h hM hF => ?_)
            first | exact absurd rfl c54 | exact wp_iret (pc := 63) dX12_asLetter_63 rfl ⟨by first | (simp only [f_asLetter, htx, eq_false c8, eq_true c20, eq_true c35, eq_true c46, eq_false c54, if_true, if_false, Bool.true_eq_false, Bool.false_eq_true, reduceIte, reduceCtorEq, Bool.not_true, Bool.not_false, true_and, and_true, and_false, false_and, or_true, true_or, or_false, false_or, not_true_eq_false, not_false_eq_true]; done) | (simp only [f_asLetter, eq_false c8, eq_true c20, eq_true c35, eq_true c46, eq_false c54, if_true, if_false, Bool.true_eq_false, Bool.false_eq_true, reduceIte, reduceCtorEq, Bool.not_true, Bool.not_false, true_and, and_true, and_false, false_and, or_true, true_or, or_false, false_or, not_true_eq_false, not_false_eq_true]; done), by first | (simp only [f_asLetter, htx, eq_false c8, eq_true c20, eq_true c35, eq_true c46, eq_false c54, if_true, if_false, Bool.true_eq_false, Bool.false_eq_true, reduceIte, reduceCtorEq, Bool.not_true, Bool.not_false, true_and, and_true, and_false, false_and, or_true, true_or, or_false, false_or, not_true_eq_false, not_false_eq_true] <;> exact hM) | (simp only [f_asLetter, eq_false c8, eq_true c20, eq_true c35, eq_true c46, eq_false c54, if_true, if_false, Bool.true_eq_false, Bool.false_eq_true, reduceIte, reduceCtorEq, Bool.not_true, Bool.not_false, true_and, and_true, and_false, false_and, or_true, true_or, or_false, false_or, not_true_eq_false, not_false_eq_true] <;> exact hM), hF⟩
      · skip
        refine wp_iconst (pc := 38) (v := 1) dX12_asLetter_38 (by decide) ?_
        refine wp_goto (pc := 39) (tgt := 43) dX12_asLetter_39 (by decide) ?_
        refine wp_iload_n (pc := 43) dX12_asLetter_43 rfl rfl ?_
        refine wp_iconst (pc := 44) (v := 2) dX12_asLetter_44 (by decide) ?_
        refine wp_irem (pc := 45) dX12_asLetter_45 (by decide) ?_
        refine wp_if_ne (pc := 46) (tgt := 53) dX12_asLetter_46 (by decide) (fun c46 => ?_) (fun c46 => ?_)
        · skip
          refine wp_iconst (pc := 53) (v := 0) dX12_asLetter_53 (by decide) ?_
          refine wp_icmp_eq (pc := 54) (tgt := 64) dX12_asLetter_54 (by decide) (fun c54 => ?_) (fun c54 => ?_)
          · skip
            refine wp_aload_n (pc := 64) dX12_asLetter_64 rfl rfl ?_
            refine wp_aload_n (pc := 65) dX12_asLetter_65 rfl rfl ?_
            refine wp_get (pc := 66) dX12_asLetter_66 fl_X12_109_13 hM.1 rfl ?_
            refine wp_aload_n (pc := 69) dX12_asLetter_69 rfl rfl ?_
            refine wp_get (pc := 70) dX12_asLetter_70 fl_X12_139_13 hM.1 rfl ?_
            refine wp_iload_n (pc := 73) dX12_asLetter_73 rfl rfl ?_
            refine wp_iald (pc := 74) (i := y) dX12_asLetter_74 (hM.i 55 rfl) ⟨rfl, by omega, by decide⟩ ?_
            rw [hty]
            refine wp_iald (pc := 75) (i := t) dX12_asLetter_75 (hM.i 39 rfl) ⟨rfl, by omega, by decide⟩ ?_
            refine mp_call (pc := 76) [_] dX12_asLetter_76 rfl cv_X12_327_13 rfl ⟨(Nat.le_of_ble_eq_true rfl), (Nat.le_of_ble_eq_true rfl)⟩ (Nat.le_of_ble_eq_true rfl) ⟨rfl, rfl⟩ (ms_done l G x am _ _) hM hF (fun h hM hF => ?_)
            exact wp_iret (pc := 79) dX12_asLetter_79 rfl ⟨by first | (simp only [f_asLetter, htx, eq_false c8, eq_true c20, eq_false c35, eq_false c46, eq_true c54, if_true, if_false, Bool.true_eq_false, Bool.false_eq_true, reduceIte, reduceCtorEq, Bool.not_true, Bool.not_false, true_and, and_true, and_false, false_and, or_true, true_or, or_false, false_or, not_true_eq_false, not_false_eq_true]; done) | (simp only [f_asLetter, eq_false c8, eq_true c20, eq_false c35, eq_false c46, eq_true c54, if_true, if_false, Bool.true_eq_false, Bool.false_eq_true, reduceIte, reduceCtorEq, Bool.not_true, Bool.not_false, true_and, and_true, and_false, false_and, or_true, true_or, or_false, false_or, not_true_eq_false, not_false_eq_true]; done), by first | (simp only [f_asLetter, htx, eq_false c8, eq_true c20, eq_false c35, eq_false c46, eq_true c54, if_true, if_false, Bool.true_eq_false, Bool.false_eq_true, reduceIte, reduceCtorEq, Bool.not_true, Bool.not_false, true_and, and_true, and_false, false_and, or_true, true_or, or_false, false_or, not_true_eq_false, not_false_eq_true] <;> exact hM) | (simp only [f_asLetter, eq_false c8, eq_true c20, eq_false c35, eq_false c46, eq_true c54, if_true, if_false, Bool.true_eq_false, Bool.false_eq_true, reduceIte, reduceCtorEq, Bool.not_true, Bool.not_false, true_and, and_true, and_false, false_and, or_true, true_or, or_false, false_or, not_true_eq_false, not_false_eq_true] <;> exact hM), hF⟩
          · skip
            refine wp_aload_n (pc := 57) dX12_asLetter_57 rfl rfl ?_
            refine wp_bipush (pc := 58) (v := 11) dX12_asLetter_58 (by decide) ?_
            refine mp_call (pc := 60) [_] dX12_asLetter_60 rfl cv_X12_324_13 rfl ⟨(Nat.le_of_ble_eq_true rfl), (Nat.le_of_ble_eq_true rfl)⟩ (Nat.le_of_ble_eq_true rfl) ⟨rfl, rfl⟩ (ms_refuse l G x am _ _) hM hF (fun h hM hF => ?_)
            first | exact absurd rfl c54 | exact wp_iret (pc := 63) dX12_asLetter_63 rfl ⟨by first | (simp only [f_asLetter, htx, eq_false c8, eq_true c20, eq_false c35, eq_false c46, eq_false c54, if_true, if_false, Bool.true_eq_false, Bool.false_eq_true, reduceIte, reduceCtorEq, Bool.not_true, Bool.not_false, true_and, and_true, and_false, false_and, or_true, true_or, or_false, false_or, not_true_eq_false, not_false_eq_true]; done) | (simp only [f_asLetter, eq_false c8, eq_true c20, eq_false c35, eq_false c46, eq_false c54, if_true, if_false, Bool.true_eq_false, Bool.false_eq_true, reduceIte, reduceCtorEq, Bool.not_true, Bool.not_false, true_and, and_true, and_false, false_and, or_true, true_or, or_false, false_or, not_true_eq_false, not_false_eq_true]; done), by first | (simp only [f_asLetter, htx, eq_false c8, eq_true c20, eq_false c35, eq_false c46, eq_false c54, if_true, if_false, Bool.true_eq_false, Bool.false_eq_true, reduceIte, reduceCtorEq, Bool.not_true, Bool.not_false, true_and, and_true, and_false, false_and, or_true, true_or, or_false, false_or, not_true_eq_false, not_false_eq_true] <;> exact hM) | (simp only [f_asLetter, eq_false c8, eq_true c20, eq_false c35, eq_false c46, eq_false c54, if_true, if_false, Bool.true_eq_false, Bool.false_eq_true, reduceIte, reduceCtorEq, Bool.not_true, Bool.not_false, true_and, and_true, and_false, false_and, or_true, true_or, or_false, false_or, not_true_eq_false, not_false_eq_true] <;> exact hM), hF⟩
        · skip
          refine wp_iconst (pc := 49) (v := 1) dX12_asLetter_49 (by decide) ?_
          refine wp_goto (pc := 50) (tgt := 54) dX12_asLetter_50 (by decide) ?_
          refine wp_icmp_eq (pc := 54) (tgt := 64) dX12_asLetter_54 (by decide) (fun c54 => ?_) (fun c54 => ?_)
          · skip
            refine wp_aload_n (pc := 64) dX12_asLetter_64 rfl rfl ?_
            refine wp_aload_n (pc := 65) dX12_asLetter_65 rfl rfl ?_
            refine wp_get (pc := 66) dX12_asLetter_66 fl_X12_109_13 hM.1 rfl ?_
            refine wp_aload_n (pc := 69) dX12_asLetter_69 rfl rfl ?_
            refine wp_get (pc := 70) dX12_asLetter_70 fl_X12_139_13 hM.1 rfl ?_
            refine wp_iload_n (pc := 73) dX12_asLetter_73 rfl rfl ?_
            refine wp_iald (pc := 74) (i := y) dX12_asLetter_74 (hM.i 55 rfl) ⟨rfl, by omega, by decide⟩ ?_
            rw [hty]
            refine wp_iald (pc := 75) (i := t) dX12_asLetter_75 (hM.i 39 rfl) ⟨rfl, by omega, by decide⟩ ?_
            refine mp_call (pc := 76) [_] dX12_asLetter_76 rfl cv_X12_327_13 rfl ⟨(Nat.le_of_ble_eq_true rfl), (Nat.le_of_ble_eq_true rfl)⟩ (Nat.le_of_ble_eq_true rfl) ⟨rfl, rfl⟩ (ms_done l G x am _ _) hM hF (fun h hM hF => ?_)
            exact wp_iret (pc := 79) dX12_asLetter_79 rfl ⟨by first | (simp only [f_asLetter, htx, eq_false c8, eq_true c20, eq_false c35, eq_true c46, eq_true c54, if_true, if_false, Bool.true_eq_false, Bool.false_eq_true, reduceIte, reduceCtorEq, Bool.not_true, Bool.not_false, true_and, and_true, and_false, false_and, or_true, true_or, or_false, false_or, not_true_eq_false, not_false_eq_true]; done) | (simp only [f_asLetter, eq_false c8, eq_true c20, eq_false c35, eq_true c46, eq_true c54, if_true, if_false, Bool.true_eq_false, Bool.false_eq_true, reduceIte, reduceCtorEq, Bool.not_true, Bool.not_false, true_and, and_true, and_false, false_and, or_true, true_or, or_false, false_or, not_true_eq_false, not_false_eq_true]; done), by first | (simp only [f_asLetter, htx, eq_false c8, eq_true c20, eq_false c35, eq_true c46, eq_true c54, if_true, if_false, Bool.true_eq_false, Bool.false_eq_true, reduceIte, reduceCtorEq, Bool.not_true, Bool.not_false, true_and, and_true, and_false, false_and, or_true, true_or, or_false, false_or, not_true_eq_false, not_false_eq_true] <;> exact hM) | (simp only [f_asLetter, eq_false c8, eq_true c20, eq_false c35, eq_true c46, eq_true c54, if_true, if_false, Bool.true_eq_false, Bool.false_eq_true, reduceIte, reduceCtorEq, Bool.not_true, Bool.not_false, true_and, and_true, and_false, false_and, or_true, true_or, or_false, false_or, not_true_eq_false, not_false_eq_true] <;> exact hM), hF⟩
          · skip
            refine wp_aload_n (pc := 57) dX12_asLetter_57 rfl rfl ?_
            refine wp_bipush (pc := 58) (v := 11) dX12_asLetter_58 (by decide) ?_
            refine mp_call (pc := 60) [_] dX12_asLetter_60 rfl cv_X12_324_13 rfl ⟨(Nat.le_of_ble_eq_true rfl), (Nat.le_of_ble_eq_true rfl)⟩ (Nat.le_of_ble_eq_true rfl) ⟨rfl, rfl⟩ (ms_refuse l G x am _ _) hM hF (fun h hM hF => ?_)
            first | exact absurd rfl c54 | exact wp_iret (pc := 63) dX12_asLetter_63 rfl ⟨by first | (simp only [f_asLetter, htx, eq_false c8, eq_true c20, eq_false c35, eq_true c46, eq_false c54, if_true, if_false, Bool.true_eq_false, Bool.false_eq_true, reduceIte, reduceCtorEq, Bool.not_true, Bool.not_false, true_and, and_true, and_false, false_and, or_true, true_or, or_false, false_or, not_true_eq_false, not_false_eq_true]; done) | (simp only [f_asLetter, eq_false c8, eq_true c20, eq_false c35, eq_true c46, eq_false c54, if_true, if_false, Bool.true_eq_false, Bool.false_eq_true, reduceIte, reduceCtorEq, Bool.not_true, Bool.not_false, true_and, and_true, and_false, false_and, or_true, true_or, or_false, false_or, not_true_eq_false, not_false_eq_true]; done), by first | (simp only [f_asLetter, htx, eq_false c8, eq_true c20, eq_false c35, eq_true c46, eq_false c54, if_true, if_false, Bool.true_eq_false, Bool.false_eq_true, reduceIte, reduceCtorEq, Bool.not_true, Bool.not_false, true_and, and_true, and_false, false_and, or_true, true_or, or_false, false_or, not_true_eq_false, not_false_eq_true] <;> exact hM) | (simp only [f_asLetter, eq_false c8, eq_true c20, eq_false c35, eq_true c46, eq_false c54, if_true, if_false, Bool.true_eq_false, Bool.false_eq_true, reduceIte, reduceCtorEq, Bool.not_true, Bool.not_false, true_and, and_true, and_false, false_and, or_true, true_or, or_false, false_or, not_true_eq_false, not_false_eq_true] <;> exact hM), hF⟩
  · skip
    refine wp_aload_n (pc := 11) dX12_asLetter_11 rfl rfl ?_
    refine wp_bipush (pc := 12) (v := 10) dX12_asLetter_12 (by decide) ?_
    refine mp_call (pc := 14) [_] dX12_asLetter_14 rfl cv_X12_324_13 rfl ⟨(Nat.le_of_ble_eq_true rfl), (Nat.le_of_ble_eq_true rfl)⟩ (Nat.le_of_ble_eq_true rfl) ⟨rfl, rfl⟩ (ms_refuse l G x am _ _) hM hF (fun h hM hF => ?_)
    exact wp_iret (pc := 17) dX12_asLetter_17 rfl ⟨by first | (simp only [f_asLetter, htx, eq_true c8, if_true, if_false, Bool.true_eq_false, Bool.false_eq_true, reduceIte, reduceCtorEq, Bool.not_true, Bool.not_false, true_and, and_true, and_false, false_and, or_true, true_or, or_false, false_or, not_true_eq_false, not_false_eq_true]; done) | (simp only [f_asLetter, eq_true c8, if_true, if_false, Bool.true_eq_false, Bool.false_eq_true, reduceIte, reduceCtorEq, Bool.not_true, Bool.not_false, true_and, and_true, and_false, false_and, or_true, true_or, or_false, false_or, not_true_eq_false, not_false_eq_true]; done), by first | (simp only [f_asLetter, htx, eq_true c8, if_true, if_false, Bool.true_eq_false, Bool.false_eq_true, reduceIte, reduceCtorEq, Bool.not_true, Bool.not_false, true_and, and_true, and_false, false_and, or_true, true_or, or_false, false_or, not_true_eq_false, not_false_eq_true] <;> exact hM) | (simp only [f_asLetter, eq_true c8, if_true, if_false, Bool.true_eq_false, Bool.false_eq_true, reduceIte, reduceCtorEq, Bool.not_true, Bool.not_false, true_and, and_true, and_false, false_and, or_true, true_or, or_false, false_or, not_true_eq_false, not_false_eq_true] <;> exact hM), hF⟩
theorem ms_asRow (what : Int32) (n : Int32) (y : Nat) (hy : y < 6) {z : Nat} (hz : M.2.1 56 y = nI z) (hz2 : z ≤ 20) : MSp l G x am mX12_asRow [.int (nI y), .int what, .int n] M (some (.int (f_asRow M y what n).1)) (f_asRow M y what n).2 := by
  refine MSp.intro (lv := [_, _, _, _]) (by decide) rfl (Nat.le_of_ble_eq_true rfl) (fun h0 h hM hF => ?_)
  have hzx : nx (M.2.1 56 y) = z := by rw [hz]; exact nx_nI (by omega)
  refine wp_aload_n (pc := 0) dX12_asRow_0 rfl rfl ?_
  refine wp_get (pc := 1) dX12_asRow_1 fl_X12_136_13 hM.1 rfl ?_
  refine wp_iload_n (pc := 4) dX12_asRow_4 rfl rfl ?_
  refine wp_iald (pc := 5) (i := y) dX12_asRow_5 (hM.i 54 rfl) ⟨rfl, by omega, by decide⟩ ?_
  refine wp_if_ne (pc := 6) (tgt := 16) dX12_asRow_6 (by decide) (fun c6 => ?_) (fun c6 => ?_)
  · skip
    refine wp_aload_n (pc := 16) dX12_asRow_16 rfl rfl ?_
    refine wp_get (pc := 17) dX12_asRow_17 fl_X12_136_13 hM.1 rfl ?_
    refine wp_iload_n (pc := 20) dX12_asRow_20 rfl rfl ?_
    refine wp_iald (pc := 21) (i := y) dX12_asRow_21 (hM.i 54 rfl) ⟨rfl, by omega, by decide⟩ ?_
    refine wp_iload_n (pc := 22) dX12_asRow_22 rfl rfl ?_
    refine wp_icmp_eq (pc := 23) (tgt := 33) dX12_asRow_23 (by decide) (fun c23 => ?_) (fun c23 => ?_)
    · skip
      refine wp_iload_n (pc := 33) dX12_asRow_33 rfl rfl ?_
      refine wp_iconst (pc := 34) (v := 0) dX12_asRow_34 (by decide) ?_
      refine wp_aload_n (pc := 35) dX12_asRow_35 rfl rfl ?_
      refine wp_get (pc := 36) dX12_asRow_36 fl_X12_142_13 hM.1 rfl ?_
      refine wp_iload_n (pc := 39) dX12_asRow_39 rfl rfl ?_
      refine wp_iald (pc := 40) (i := y) dX12_asRow_40 (hM.i 56 rfl) ⟨rfl, by omega, by decide⟩ ?_
      refine wp_iconst (pc := 41) (v := 1) dX12_asRow_41 (by decide) ?_
      refine wp_isub (pc := 42) dX12_asRow_42 ?_
      refine mp_callS (pc := 43) [_, _, _] dX12_asRow_43 rfl cs_X12_153 rfl ⟨(Nat.le_of_ble_eq_true rfl), (Nat.le_of_ble_eq_true rfl)⟩ (Nat.le_of_ble_eq_true rfl) ⟨rfl, rfl⟩ (ms_in l G _ _ _ h) ?_
      refine wp_ifB_ne (pc := 46) (tgt := 56) dX12_asRow_46 (by decide) (fun c46 => ?_) (fun c46 => ?_)
      · rw [hz, fin_ix n (by omega)] at c46
        obtain ⟨a, ha, rfl⟩ := isIx_t c46 (by omega)
        have e1 : nx (nI a) = a := nx_nI (by omega)
        refine wp_aload_n (pc := 56) dX12_asRow_56 rfl rfl ?_
        refine wp_aload_n (pc := 57) dX12_asRow_57 rfl rfl ?_
        refine wp_get (pc := 58) dX12_asRow_58 fl_X12_145_13 hM.1 rfl ?_
        refine wp_bipush (pc := 61) (v := 20) dX12_asRow_61 (by decide) ?_
        refine wp_iload_n (pc := 63) dX12_asRow_63 rfl rfl ?_
        refine wp_imul (pc := 64) dX12_asRow_64 ?_
        refine wp_iload_n (pc := 65) dX12_asRow_65 rfl rfl ?_
        refine wp_iadd (pc := 66) dX12_asRow_66 ?_
        refine wp_lald (pc := 67) (i := ((20 * y) + a)) dX12_asRow_67 (hM.j 57 rfl) ⟨by simp only [nl1, nl5, nl8, nl20, pk_mul, nI_add], by omega, by decide⟩ ?_
        refine wp_l2i (pc := 68) dX12_asRow_68 ?_
        refine mp_call (pc := 69) [_] dX12_asRow_69 rfl cv_X12_327_13 rfl ⟨(Nat.le_of_ble_eq_true rfl), (Nat.le_of_ble_eq_true rfl)⟩ (Nat.le_of_ble_eq_true rfl) ⟨rfl, rfl⟩ (ms_done l G x am _ _) hM hF (fun h hM hF => ?_)
        exact wp_iret (pc := 72) dX12_asRow_72 rfl ⟨by first | (simp only [f_asRow, hzx, e1, eq_false c6, eq_true c23, c46, if_true, if_false, Bool.true_eq_false, Bool.false_eq_true, reduceIte, reduceCtorEq, Bool.not_true, Bool.not_false, true_and, and_true, and_false, false_and, or_true, true_or, or_false, false_or, not_true_eq_false, not_false_eq_true]; done) | (simp only [f_asRow, hzx, eq_false c6, eq_true c23, c46, if_true, if_false, Bool.true_eq_false, Bool.false_eq_true, reduceIte, reduceCtorEq, Bool.not_true, Bool.not_false, true_and, and_true, and_false, false_and, or_true, true_or, or_false, false_or, not_true_eq_false, not_false_eq_true]; done), by first | (simp only [f_asRow, hzx, e1, eq_false c6, eq_true c23, c46, if_true, if_false, Bool.true_eq_false, Bool.false_eq_true, reduceIte, reduceCtorEq, Bool.not_true, Bool.not_false, true_and, and_true, and_false, false_and, or_true, true_or, or_false, false_or, not_true_eq_false, not_false_eq_true] <;> exact hM) | (simp only [f_asRow, hzx, eq_false c6, eq_true c23, c46, if_true, if_false, Bool.true_eq_false, Bool.false_eq_true, reduceIte, reduceCtorEq, Bool.not_true, Bool.not_false, true_and, and_true, and_false, false_and, or_true, true_or, or_false, false_or, not_true_eq_false, not_false_eq_true] <;> exact hM), hF⟩
      · rw [hz, fin_ix n (by omega)] at c46
        refine wp_aload_n (pc := 49) dX12_asRow_49 rfl rfl ?_
        refine wp_bipush (pc := 50) (v := 12) dX12_asRow_50 (by decide) ?_
        refine mp_call (pc := 52) [_] dX12_asRow_52 rfl cv_X12_324_13 rfl ⟨(Nat.le_of_ble_eq_true rfl), (Nat.le_of_ble_eq_true rfl)⟩ (Nat.le_of_ble_eq_true rfl) ⟨rfl, rfl⟩ (ms_refuse l G x am _ _) hM hF (fun h hM hF => ?_)
        exact wp_iret (pc := 55) dX12_asRow_55 rfl ⟨by first | (simp only [f_asRow, hzx, e1, eq_false c6, eq_true c23, c46, if_true, if_false, Bool.true_eq_false, Bool.false_eq_true, reduceIte, reduceCtorEq, Bool.not_true, Bool.not_false, true_and, and_true, and_false, false_and, or_true, true_or, or_false, false_or, not_true_eq_false, not_false_eq_true]; done) | (simp only [f_asRow, hzx, eq_false c6, eq_true c23, c46, if_true, if_false, Bool.true_eq_false, Bool.false_eq_true, reduceIte, reduceCtorEq, Bool.not_true, Bool.not_false, true_and, and_true, and_false, false_and, or_true, true_or, or_false, false_or, not_true_eq_false, not_false_eq_true]; done), by first | (simp only [f_asRow, hzx, e1, eq_false c6, eq_true c23, c46, if_true, if_false, Bool.true_eq_false, Bool.false_eq_true, reduceIte, reduceCtorEq, Bool.not_true, Bool.not_false, true_and, and_true, and_false, false_and, or_true, true_or, or_false, false_or, not_true_eq_false, not_false_eq_true] <;> exact hM) | (simp only [f_asRow, hzx, eq_false c6, eq_true c23, c46, if_true, if_false, Bool.true_eq_false, Bool.false_eq_true, reduceIte, reduceCtorEq, Bool.not_true, Bool.not_false, true_and, and_true, and_false, false_and, or_true, true_or, or_false, false_or, not_true_eq_false, not_false_eq_true] <;> exact hM), hF⟩
    · skip
      refine wp_aload_n (pc := 26) dX12_asRow_26 rfl rfl ?_
      refine wp_bipush (pc := 27) (v := 11) dX12_asRow_27 (by decide) ?_
      refine mp_call (pc := 29) [_] dX12_asRow_29 rfl cv_X12_324_13 rfl ⟨(Nat.le_of_ble_eq_true rfl), (Nat.le_of_ble_eq_true rfl)⟩ (Nat.le_of_ble_eq_true rfl) ⟨rfl, rfl⟩ (ms_refuse l G x am _ _) hM hF (fun h hM hF => ?_)
      exact wp_iret (pc := 32) dX12_asRow_32 rfl ⟨by first | (simp only [f_asRow, hzx, e1, eq_false c6, eq_false c23, if_true, if_false, Bool.true_eq_false, Bool.false_eq_true, reduceIte, reduceCtorEq, Bool.not_true, Bool.not_false, true_and, and_true, and_false, false_and, or_true, true_or, or_false, false_or, not_true_eq_false, not_false_eq_true]; done) | (simp only [f_asRow, hzx, eq_false c6, eq_false c23, if_true, if_false, Bool.true_eq_false, Bool.false_eq_true, reduceIte, reduceCtorEq, Bool.not_true, Bool.not_false, true_and, and_true, and_false, false_and, or_true, true_or, or_false, false_or, not_true_eq_false, not_false_eq_true]; done), by first | (simp only [f_asRow, hzx, e1, eq_false c6, eq_false c23, if_true, if_false, Bool.true_eq_false, Bool.false_eq_true, reduceIte, reduceCtorEq, Bool.not_true, Bool.not_false, true_and, and_true, and_false, false_and, or_true, true_or, or_false, false_or, not_true_eq_false, not_false_eq_true] <;> exact hM) | (simp only [f_asRow, hzx, eq_false c6, eq_false c23, if_true, if_false, Bool.true_eq_false, Bool.false_eq_true, reduceIte, reduceCtorEq, Bool.not_true, Bool.not_false, true_and, and_true, and_false, false_and, or_true, true_or, or_false, false_or, not_true_eq_false, not_false_eq_true] <;> exact hM), hF⟩
  · skip
    refine wp_aload_n (pc := 9) dX12_asRow_9 rfl rfl ?_
    refine wp_bipush (pc := 10) (v := 10) dX12_asRow_10 (by decide) ?_
    refine mp_call (pc := 12) [_] dX12_asRow_12 rfl cv_X12_324_13 rfl ⟨(Nat.le_of_ble_eq_true rfl), (Nat.le_of_ble_eq_true rfl)⟩ (Nat.le_of_ble_eq_true rfl) ⟨rfl, rfl⟩ (ms_refuse l G x am _ _) hM hF (fun h hM hF => ?_)
    exact wp_iret (pc := 15) dX12_asRow_15 rfl ⟨by first | (simp only [f_asRow, hzx, e1, eq_true c6, if_true, if_false, Bool.true_eq_false, Bool.false_eq_true, reduceIte, reduceCtorEq, Bool.not_true, Bool.not_false, true_and, and_true, and_false, false_and, or_true, true_or, or_false, false_or, not_true_eq_false, not_false_eq_true]; done) | (simp only [f_asRow, hzx, eq_true c6, if_true, if_false, Bool.true_eq_false, Bool.false_eq_true, reduceIte, reduceCtorEq, Bool.not_true, Bool.not_false, true_and, and_true, and_false, false_and, or_true, true_or, or_false, false_or, not_true_eq_false, not_false_eq_true]; done), by first | (simp only [f_asRow, hzx, e1, eq_true c6, if_true, if_false, Bool.true_eq_false, Bool.false_eq_true, reduceIte, reduceCtorEq, Bool.not_true, Bool.not_false, true_and, and_true, and_false, false_and, or_true, true_or, or_false, false_or, not_true_eq_false, not_false_eq_true] <;> exact hM) | (simp only [f_asRow, hzx, eq_true c6, if_true, if_false, Bool.true_eq_false, Bool.false_eq_true, reduceIte, reduceCtorEq, Bool.not_true, Bool.not_false, true_and, and_true, and_false, false_and, or_true, true_or, or_false, false_or, not_true_eq_false, not_false_eq_true] <;> exact hM), hF⟩
theorem cp_n {n : Int32} {z : Nat} (h0 : ¬ n < 0) (h100 : n ≤ 100) (h1 : ¬ nI z < 1 + n) (hz : z ≤ 20) : ∃ m, m < z ∧ n = nI m := by
  obtain ⟨m, hm, rfl⟩ := nI_of h0
  rw [show (100 : Int32) = nI 100 from rfl, nI_leI hm (by decide)] at h100
  rw [show (1 : Int32) = nI 1 from rfl, nI_add, nI_ltI (by omega) (by omega)] at h1
  exact ⟨m, by omega, rfl⟩
theorem ms_copied (y : Nat) (n : Int32) (hy : y < 6) (hn : n ≤ 100) {z : Nat} (hz : M.2.1 56 y = nI z) (hz2 : z ≤ 20) : MSp l G x am mX12_copied [.int (nI y), .int n] M (some (.int (f_copied M y n).1)) ((f_copied M y n).2) := by
  refine MSp.intro (lv := [_, _, _, _, _, _]) (by decide) rfl (Nat.le_of_ble_eq_true rfl) (fun h0 h hM hF => ?_)
  generalize hQ0 : (fun (w9 : Option Value) (h' : Hp) => w9 = (some (.int (f_copied M y n).1)) ∧ InM x am ((f_copied M y n).2) h' ∧ Fr x am h0 h') = Q0
  refine wp_aload_n (pc := 0) dX12_copied_0 rfl rfl ?_
  refine wp_get (pc := 1) dX12_copied_1 fl_X12_136_13 hM.1 rfl ?_
  refine wp_iload_n (pc := 4) dX12_copied_4 rfl rfl ?_
  refine wp_iald (pc := 5) (i := y) dX12_copied_5 (hM.i 54 rfl) ⟨rfl, by omega, by decide⟩ ?_
  refine wp_if_ne (pc := 6) (tgt := 16) dX12_copied_6 (by decide) (fun c6 => ?_) (fun c6 => ?_)
  · skip
    refine wp_aload_n (pc := 16) dX12_copied_16 rfl rfl ?_
    refine wp_get (pc := 17) dX12_copied_17 fl_X12_136_13 hM.1 rfl ?_
    refine wp_iload_n (pc := 20) dX12_copied_20 rfl rfl ?_
    refine wp_iald (pc := 21) (i := y) dX12_copied_21 (hM.i 54 rfl) ⟨rfl, by omega, by decide⟩ ?_
    refine wp_iconst (pc := 22) (v := 3) dX12_copied_22 (by decide) ?_
    refine wp_icmp_eq (pc := 23) (tgt := 33) dX12_copied_23 (by decide) (fun c23 => ?_) (fun c23 => ?_)
    · skip
      refine wp_iload_n (pc := 33) dX12_copied_33 rfl rfl ?_
      refine wp_if_lt (pc := 34) (tgt := 56) dX12_copied_34 (by decide) (fun c34 => ?_) (fun c34 => ?_)
      · skip
        refine wp_aload_n (pc := 56) dX12_copied_56 rfl rfl ?_
        refine wp_bipush (pc := 57) (v := 12) dX12_copied_57 (by decide) ?_
        refine mp_call (pc := 59) [_] dX12_copied_59 rfl cv_X12_324_13 rfl ⟨(Nat.le_of_ble_eq_true rfl), (Nat.le_of_ble_eq_true rfl)⟩ (Nat.le_of_ble_eq_true rfl) ⟨rfl, rfl⟩ (ms_refuse l G x am _ _) hM hF (fun h hM hF => ?_)
        exact wp_iret (pc := 62) dX12_copied_62 rfl (by rw [← hQ0]; exact ⟨by simp only [f_copied, eq_false c6, eq_true c23, eq_true c34, if_true, if_false, Bool.true_eq_false, Bool.false_eq_true, reduceIte, reduceCtorEq, Bool.not_true, Bool.not_false, true_and, and_true, and_false, false_and, or_true, true_or, or_false, false_or, not_true_eq_false, not_false_eq_true], by simp only [f_copied, eq_false c6, eq_true c23, eq_true c34, if_true, if_false, Bool.true_eq_false, Bool.false_eq_true, reduceIte, reduceCtorEq, Bool.not_true, Bool.not_false, true_and, and_true, and_false, false_and, or_true, true_or, or_false, false_or, not_true_eq_false, not_false_eq_true] <;> exact hM, hF⟩)
      · skip
        refine wp_iconst (pc := 37) (v := 1) dX12_copied_37 (by decide) ?_
        refine wp_iload_n (pc := 38) dX12_copied_38 rfl rfl ?_
        refine wp_iadd (pc := 39) dX12_copied_39 ?_
        refine wp_aload_n (pc := 40) dX12_copied_40 rfl rfl ?_
        refine wp_get (pc := 41) dX12_copied_41 fl_X12_142_13 hM.1 rfl ?_
        refine wp_iload_n (pc := 44) dX12_copied_44 rfl rfl ?_
        refine wp_iald (pc := 45) (i := y) dX12_copied_45 (hM.i 56 rfl) ⟨rfl, by omega, by decide⟩ ?_
        refine wp_icmp_gt (pc := 46) (tgt := 56) dX12_copied_46 (by decide) (fun c46 => ?_) (fun c46 => ?_)
        · skip
          refine wp_aload_n (pc := 56) dX12_copied_56 rfl rfl ?_
          refine wp_bipush (pc := 57) (v := 12) dX12_copied_57 (by decide) ?_
          refine mp_call (pc := 59) [_] dX12_copied_59 rfl cv_X12_324_13 rfl ⟨(Nat.le_of_ble_eq_true rfl), (Nat.le_of_ble_eq_true rfl)⟩ (Nat.le_of_ble_eq_true rfl) ⟨rfl, rfl⟩ (ms_refuse l G x am _ _) hM hF (fun h hM hF => ?_)
          exact wp_iret (pc := 62) dX12_copied_62 rfl (by rw [← hQ0]; exact ⟨by simp only [f_copied, eq_false c6, eq_true c23, eq_false c34, eq_true c46, if_true, if_false, Bool.true_eq_false, Bool.false_eq_true, reduceIte, reduceCtorEq, Bool.not_true, Bool.not_false, true_and, and_true, and_false, false_and, or_true, true_or, or_false, false_or, not_true_eq_false, not_false_eq_true], by simp only [f_copied, eq_false c6, eq_true c23, eq_false c34, eq_true c46, if_true, if_false, Bool.true_eq_false, Bool.false_eq_true, reduceIte, reduceCtorEq, Bool.not_true, Bool.not_false, true_and, and_true, and_false, false_and, or_true, true_or, or_false, false_or, not_true_eq_false, not_false_eq_true] <;> exact hM, hF⟩)
        · obtain ⟨m, hm, rfl⟩ := cp_n c34 hn (by rw [← hz]; exact c46) hz2
          have e1 : nx (nI m) = m := nx_nI (by omega)
          refine wp_iconst (pc := 49) (v := 2) dX12_copied_49 (by decide) ?_
          refine wp_iload_n (pc := 50) dX12_copied_50 rfl rfl ?_
          refine wp_imul (pc := 51) dX12_copied_51 ?_
          refine wp_iconst (pc := 52) (v := 5) dX12_copied_52 (by decide) ?_
          refine wp_icmp_le (pc := 53) (tgt := 63) dX12_copied_53 (by decide) (fun c53 => ?_) (fun c53 => ?_)
          · skip
            refine wp_lconst (pc := 63) (v := 0) dX12_copied_63 (by decide) ?_
            refine wp_lstore_n (pc := 64) (lv' := [_, _, _, _, _, _]) dX12_copied_64 rfl (Nat.le_of_ble_eq_true rfl) rfl rfl ?_
            refine wp_iconst (pc := 65) (v := 0) dX12_copied_65 (by decide) ?_
            refine wp_istore (pc := 66) (lv' := [_, _, _, _, _, _]) dX12_copied_66 (Nat.le_of_ble_eq_true rfl) rfl rfl ?_
            have loop : ∀ i, i ≤ m → ∀ h, InM x am M h → Fr x am h0 h → wp l G mX12_copied (zM G mX12_copied Q0) 68 [some (.ref x), some (.int (nI y)), some (.int (nI m)), some (.long (cpS M y i)), none, some (.int (nI i))] [] h 0 0 := by
              refine loopU _ m (fun i hi ih => ?_) ?_
              · intro h hM hF
                refine wp_iload (pc := 68) dX12_copied_68 rfl ?_
                refine wp_iload_n (pc := 70) dX12_copied_70 rfl rfl ?_
                refine wp_icmp_ge (pc := 71) (tgt := 97) dX12_copied_71 (by decide) (fun z => absurd z (nI_ge hi (by omega))) (fun _ => ?_)
                refine wp_lload_n (pc := 74) dX12_copied_74 rfl rfl ?_
                refine wp_aload_n (pc := 75) dX12_copied_75 rfl rfl ?_
                refine wp_get (pc := 76) dX12_copied_76 fl_X12_145_13 hM.1 rfl ?_
                refine wp_bipush (pc := 79) (v := 20) dX12_copied_79 (by decide) ?_
                refine wp_iload_n (pc := 81) dX12_copied_81 rfl rfl ?_
                refine wp_imul (pc := 82) dX12_copied_82 ?_
                refine wp_iconst (pc := 83) (v := 1) dX12_copied_83 (by decide) ?_
                refine wp_iadd (pc := 84) dX12_copied_84 ?_
                refine wp_iload (pc := 85) dX12_copied_85 rfl ?_
                refine wp_iadd (pc := 87) dX12_copied_87 ?_
                refine wp_lald (pc := 88) (i := (((20 * y) + 1) + i)) dX12_copied_88 (hM.j 57 rfl) ⟨by simp only [nl1, nl5, nl8, nl20, pk_mul, nI_add], by omega, by decide⟩ ?_
                refine wp_ladd (pc := 89) dX12_copied_89 ?_
                refine wp_lstore_n (pc := 90) (lv' := [_, _, _, _, _, _]) dX12_copied_90 rfl (Nat.le_of_ble_eq_true rfl) rfl rfl ?_
                refine wp_iinc (pc := 91) (v := _ + 1) (lv' := [_, _, _, _, _, _]) dX12_copied_91 rfl rfl rfl rfl ?_
                refine wp_goto (pc := 94) (tgt := 68) dX12_copied_94 (by decide) ?_
                exact wp_lv (ih h hM hF) (by simp [cpS, nI_1])
              · intro h hM hF
                refine wp_iload (pc := 68) dX12_copied_68 rfl ?_
                refine wp_iload_n (pc := 70) dX12_copied_70 rfl rfl ?_
                refine wp_icmp_ge (pc := 71) (tgt := 97) dX12_copied_71 (by decide) (fun _ => ?_) (fun z => absurd (nI_le (Nat.le_refl _) (by omega)) z)
                refine wp_aload_n (pc := 97) dX12_copied_97 rfl rfl ?_
                refine wp_lload_n (pc := 98) dX12_copied_98 rfl rfl ?_
                refine wp_l2i (pc := 99) dX12_copied_99 ?_
                refine mp_call (pc := 100) [_] dX12_copied_100 rfl cv_X12_327_13 rfl ⟨(Nat.le_of_ble_eq_true rfl), (Nat.le_of_ble_eq_true rfl)⟩ (Nat.le_of_ble_eq_true rfl) ⟨rfl, rfl⟩ (ms_done l G x am _ _) hM hF (fun h hM hF => ?_)
                exact wp_iret (pc := 103) dX12_copied_103 rfl (by rw [← hQ0]; exact ⟨by simp only [f_copied, e1, eq_false c6, eq_true c23, eq_false c34, eq_false c46, eq_true c53, if_true, if_false, Bool.true_eq_false, Bool.false_eq_true, reduceIte, reduceCtorEq, Bool.not_true, Bool.not_false, true_and, and_true, and_false, false_and, or_true, true_or, or_false, false_or, not_true_eq_false, not_false_eq_true], by simp only [f_copied, e1, eq_false c6, eq_true c23, eq_false c34, eq_false c46, eq_true c53, if_true, if_false, Bool.true_eq_false, Bool.false_eq_true, reduceIte, reduceCtorEq, Bool.not_true, Bool.not_false, true_and, and_true, and_false, false_and, or_true, true_or, or_false, false_or, not_true_eq_false, not_false_eq_true] <;> exact hM, hF⟩)
            exact wp_drop (loop 0 (Nat.zero_le _) h hM hF) (by simp [lvle, cpS, nI_0])
          · skip
            refine wp_aload_n (pc := 56) dX12_copied_56 rfl rfl ?_
            refine wp_bipush (pc := 57) (v := 12) dX12_copied_57 (by decide) ?_
            refine mp_call (pc := 59) [_] dX12_copied_59 rfl cv_X12_324_13 rfl ⟨(Nat.le_of_ble_eq_true rfl), (Nat.le_of_ble_eq_true rfl)⟩ (Nat.le_of_ble_eq_true rfl) ⟨rfl, rfl⟩ (ms_refuse l G x am _ _) hM hF (fun h hM hF => ?_)
            exact wp_iret (pc := 62) dX12_copied_62 rfl (by rw [← hQ0]; exact ⟨by simp only [f_copied, eq_false c6, eq_true c23, eq_false c34, eq_false c46, eq_false c53, if_true, if_false, Bool.true_eq_false, Bool.false_eq_true, reduceIte, reduceCtorEq, Bool.not_true, Bool.not_false, true_and, and_true, and_false, false_and, or_true, true_or, or_false, false_or, not_true_eq_false, not_false_eq_true], by simp only [f_copied, eq_false c6, eq_true c23, eq_false c34, eq_false c46, eq_false c53, if_true, if_false, Bool.true_eq_false, Bool.false_eq_true, reduceIte, reduceCtorEq, Bool.not_true, Bool.not_false, true_and, and_true, and_false, false_and, or_true, true_or, or_false, false_or, not_true_eq_false, not_false_eq_true] <;> exact hM, hF⟩)
    · skip
      refine wp_aload_n (pc := 26) dX12_copied_26 rfl rfl ?_
      refine wp_bipush (pc := 27) (v := 11) dX12_copied_27 (by decide) ?_
      refine mp_call (pc := 29) [_] dX12_copied_29 rfl cv_X12_324_13 rfl ⟨(Nat.le_of_ble_eq_true rfl), (Nat.le_of_ble_eq_true rfl)⟩ (Nat.le_of_ble_eq_true rfl) ⟨rfl, rfl⟩ (ms_refuse l G x am _ _) hM hF (fun h hM hF => ?_)
      exact wp_iret (pc := 32) dX12_copied_32 rfl (by rw [← hQ0]; exact ⟨by simp only [f_copied, eq_false c6, eq_false c23, if_true, if_false, Bool.true_eq_false, Bool.false_eq_true, reduceIte, reduceCtorEq, Bool.not_true, Bool.not_false, true_and, and_true, and_false, false_and, or_true, true_or, or_false, false_or, not_true_eq_false, not_false_eq_true], by simp only [f_copied, eq_false c6, eq_false c23, if_true, if_false, Bool.true_eq_false, Bool.false_eq_true, reduceIte, reduceCtorEq, Bool.not_true, Bool.not_false, true_and, and_true, and_false, false_and, or_true, true_or, or_false, false_or, not_true_eq_false, not_false_eq_true] <;> exact hM, hF⟩)
  · skip
    refine wp_aload_n (pc := 9) dX12_copied_9 rfl rfl ?_
    refine wp_bipush (pc := 10) (v := 10) dX12_copied_10 (by decide) ?_
    refine mp_call (pc := 12) [_] dX12_copied_12 rfl cv_X12_324_13 rfl ⟨(Nat.le_of_ble_eq_true rfl), (Nat.le_of_ble_eq_true rfl)⟩ (Nat.le_of_ble_eq_true rfl) ⟨rfl, rfl⟩ (ms_refuse l G x am _ _) hM hF (fun h hM hF => ?_)
    exact wp_iret (pc := 15) dX12_copied_15 rfl (by rw [← hQ0]; exact ⟨by simp only [f_copied, eq_true c6, if_true, if_false, Bool.true_eq_false, Bool.false_eq_true, reduceIte, reduceCtorEq, Bool.not_true, Bool.not_false, true_and, and_true, and_false, false_and, or_true, true_or, or_false, false_or, not_true_eq_false, not_false_eq_true], by simp only [f_copied, eq_true c6, if_true, if_false, Bool.true_eq_false, Bool.false_eq_true, reduceIte, reduceCtorEq, Bool.not_true, Bool.not_false, true_and, and_true, and_false, false_and, or_true, true_or, or_false, false_or, not_true_eq_false, not_false_eq_true] <;> exact hM, hF⟩)
theorem fin_t {v lo hi : Int32} (h : fin v lo hi = true) : lo ≤ v ∧ v ≤ hi := by
  unfold fin at h
  split at h
  · cases h
  · rename_i h1
    split at h
    · cases h
    · rename_i h2
      exact ⟨Int32.not_lt.mp h1, Int32.not_lt.mp h2⟩
theorem ms_forge (tr : Int32) (what : Int32) (n : Int32)  (hTr : ∀ y, y < 6 → (M.2.1 54 y = 1 → ∃ t, t < 20 ∧ M.2.1 55 y = nI t) ∧ (M.2.1 54 y = 2 → ∃ t, t < 400 ∧ M.2.1 55 y = nI t) ∧ ∃ z : Nat, M.2.1 56 y = nI z ∧ z ≤ 20) : MSp l G x am mX12_forge [.int tr, .int what, .int n] M (some (.int (f_forge M tr what n).1)) (f_forge M tr what n).2 := by
  refine MSp.intro (lv := [_, _, _, _]) (by decide) rfl (Nat.le_of_ble_eq_true rfl) (fun h0 h hM hF => ?_)
  refine wp_iload_n (pc := 0) dX12_forge_0 rfl rfl ?_
  refine wp_iconst (pc := 1) (v := 0) dX12_forge_1 (by decide) ?_
  refine wp_iconst (pc := 2) (v := 5) dX12_forge_2 (by decide) ?_
  refine mp_callS (pc := 3) [_, _, _] dX12_forge_3 rfl cs_X12_153 rfl ⟨(Nat.le_of_ble_eq_true rfl), (Nat.le_of_ble_eq_true rfl)⟩ (Nat.le_of_ble_eq_true rfl) ⟨rfl, rfl⟩ (ms_in l G _ _ _ h) ?_
  refine wp_ifB_eq (pc := 6) (tgt := 30) dX12_forge_6 (by decide) (fun c6 => ?_) (fun c6 => ?_)
  · skip
    refine wp_aload_n (pc := 30) dX12_forge_30 rfl rfl ?_
    refine wp_iconst (pc := 31) (v := 1) dX12_forge_31 (by decide) ?_
    refine mp_call (pc := 32) [_] dX12_forge_32 rfl cv_X12_324_13 rfl ⟨(Nat.le_of_ble_eq_true rfl), (Nat.le_of_ble_eq_true rfl)⟩ (Nat.le_of_ble_eq_true rfl) ⟨rfl, rfl⟩ (ms_refuse l G x am _ _) hM hF (fun h hM hF => ?_)
    exact wp_iret (pc := 35) dX12_forge_35 rfl ⟨by first | (simp only [f_forge, e1, c6, if_true, if_false, Bool.true_eq_false, Bool.false_eq_true, reduceIte, reduceCtorEq, Bool.not_true, Bool.not_false, true_and, and_true, and_false, false_and, or_true, true_or, or_false, false_or, not_true_eq_false, not_false_eq_true]; done) | (simp only [f_forge, c6, if_true, if_false, Bool.true_eq_false, Bool.false_eq_true, reduceIte, reduceCtorEq, Bool.not_true, Bool.not_false, true_and, and_true, and_false, false_and, or_true, true_or, or_false, false_or, not_true_eq_false, not_false_eq_true]; done), by first | (simp only [f_forge, e1, c6, if_true, if_false, Bool.true_eq_false, Bool.false_eq_true, reduceIte, reduceCtorEq, Bool.not_true, Bool.not_false, true_and, and_true, and_false, false_and, or_true, true_or, or_false, false_or, not_true_eq_false, not_false_eq_true] <;> exact hM) | (simp only [f_forge, c6, if_true, if_false, Bool.true_eq_false, Bool.false_eq_true, reduceIte, reduceCtorEq, Bool.not_true, Bool.not_false, true_and, and_true, and_false, false_and, or_true, true_or, or_false, false_or, not_true_eq_false, not_false_eq_true] <;> exact hM), hF⟩
  · obtain ⟨y, hy, rfl⟩ := fin_ix5 c6
    have e1 : nx (nI y) = y := nx_nI (by omega)
    obtain ⟨hy1, hy2, z, hz, hz2⟩ := hTr y hy
    refine wp_iload_n (pc := 9) dX12_forge_9 rfl rfl ?_
    refine wp_iconst (pc := 10) (v := 0) dX12_forge_10 (by decide) ?_
    refine wp_bipush (pc := 11) (v := 8) dX12_forge_11 (by decide) ?_
    refine mp_callS (pc := 13) [_, _, _] dX12_forge_13 rfl cs_X12_153 rfl ⟨(Nat.le_of_ble_eq_true rfl), (Nat.le_of_ble_eq_true rfl)⟩ (Nat.le_of_ble_eq_true rfl) ⟨rfl, rfl⟩ (ms_in l G _ _ _ h) ?_
    refine wp_ifB_eq (pc := 16) (tgt := 30) dX12_forge_16 (by decide) (fun c16 => ?_) (fun c16 => ?_)
    · skip
      refine wp_aload_n (pc := 30) dX12_forge_30 rfl rfl ?_
      refine wp_iconst (pc := 31) (v := 1) dX12_forge_31 (by decide) ?_
      refine mp_call (pc := 32) [_] dX12_forge_32 rfl cv_X12_324_13 rfl ⟨(Nat.le_of_ble_eq_true rfl), (Nat.le_of_ble_eq_true rfl)⟩ (Nat.le_of_ble_eq_true rfl) ⟨rfl, rfl⟩ (ms_refuse l G x am _ _) hM hF (fun h hM hF => ?_)
      exact wp_iret (pc := 35) dX12_forge_35 rfl ⟨by first | (simp only [f_forge, e1, c6, c16, if_true, if_false, Bool.true_eq_false, Bool.false_eq_true, reduceIte, reduceCtorEq, Bool.not_true, Bool.not_false, true_and, and_true, and_false, false_and, or_true, true_or, or_false, false_or, not_true_eq_false, not_false_eq_true]; done) | (simp only [f_forge, c6, c16, if_true, if_false, Bool.true_eq_false, Bool.false_eq_true, reduceIte, reduceCtorEq, Bool.not_true, Bool.not_false, true_and, and_true, and_false, false_and, or_true, true_or, or_false, false_or, not_true_eq_false, not_false_eq_true]; done), by first | (simp only [f_forge, e1, c6, c16, if_true, if_false, Bool.true_eq_false, Bool.false_eq_true, reduceIte, reduceCtorEq, Bool.not_true, Bool.not_false, true_and, and_true, and_false, false_and, or_true, true_or, or_false, false_or, not_true_eq_false, not_false_eq_true] <;> exact hM) | (simp only [f_forge, c6, c16, if_true, if_false, Bool.true_eq_false, Bool.false_eq_true, reduceIte, reduceCtorEq, Bool.not_true, Bool.not_false, true_and, and_true, and_false, false_and, or_true, true_or, or_false, false_or, not_true_eq_false, not_false_eq_true] <;> exact hM), hF⟩
    · skip
      refine wp_iload_n (pc := 19) dX12_forge_19 rfl rfl ?_
      refine wp_bipush (pc := 20) (v := (-100)) dX12_forge_20 (by decide) ?_
      refine wp_bipush (pc := 22) (v := 100) dX12_forge_22 (by decide) ?_
      refine mp_callS (pc := 24) [_, _, _] dX12_forge_24 rfl cs_X12_153 rfl ⟨(Nat.le_of_ble_eq_true rfl), (Nat.le_of_ble_eq_true rfl)⟩ (Nat.le_of_ble_eq_true rfl) ⟨rfl, rfl⟩ (ms_in l G _ _ _ h) ?_
      refine wp_ifB_ne (pc := 27) (tgt := 36) dX12_forge_27 (by decide) (fun c27 => ?_) (fun c27 => ?_)
      · skip
        refine wp_iload_n (pc := 36) dX12_forge_36 rfl rfl ?_
        refine wp_tsw_0_7 (pc := 37) dX12_forge_37 (t0 := 84) (t1 := 91) (t2 := 98) (t3 := 106) (t4 := 114) (t5 := 133) (t6 := 140) (t7 := 146) (td := 169) (by decide) (by decide) (by decide) (by decide) (by decide) (by decide) (by decide) (by decide) (by decide) (fun c37 => ?_) (fun c37 => ?_) (fun c37 => ?_) (fun c37 => ?_) (fun c37 => ?_) (fun c37 => ?_) (fun c37 => ?_) (fun c37 => ?_) (fun c37 => ?_)
        · skip
          refine wp_aload_n (pc := 84) dX12_forge_84 rfl rfl ?_
          refine wp_iload_n (pc := 85) dX12_forge_85 rfl rfl ?_
          refine wp_iload_n (pc := 86) dX12_forge_86 rfl rfl ?_
          refine mp_call (pc := 87) [_, _] dX12_forge_87 rfl cv_X12_333_13 rfl ⟨(Nat.le_of_ble_eq_true rfl), (Nat.le_of_ble_eq_true rfl)⟩ (Nat.le_of_ble_eq_true rfl) ⟨rfl, rfl⟩ (ms_asThing l G x am _ _ _ (by omega) (by exact hy1)) hM hF (fun h hM hF => ?_)
          exact wp_iret (pc := 90) dX12_forge_90 rfl ⟨by subst c37; simp only [f_forge, e1, c6, c16, c27, if_true, if_false, Bool.true_eq_false, Bool.false_eq_true, reduceIte, reduceCtorEq, Bool.not_true, Bool.not_false, true_and, and_true, and_false, false_and, or_true, true_or, or_false, false_or, not_true_eq_false, not_false_eq_true] <;> rfl, by subst c37; simp only [f_forge, e1, c6, c16, c27, if_true, if_false, Bool.true_eq_false, Bool.false_eq_true, reduceIte, reduceCtorEq, Bool.not_true, Bool.not_false, true_and, and_true, and_false, false_and, or_true, true_or, or_false, false_or, not_true_eq_false, not_false_eq_true] <;> exact hM, hF⟩
        · skip
          refine wp_aload_n (pc := 91) dX12_forge_91 rfl rfl ?_
          refine wp_iload_n (pc := 92) dX12_forge_92 rfl rfl ?_
          refine wp_iload_n (pc := 93) dX12_forge_93 rfl rfl ?_
          refine mp_call (pc := 94) [_, _] dX12_forge_94 rfl cv_X12_336_13 rfl ⟨(Nat.le_of_ble_eq_true rfl), (Nat.le_of_ble_eq_true rfl)⟩ (Nat.le_of_ble_eq_true rfl) ⟨rfl, rfl⟩ (ms_asLetter l G x am _ _ _ (by omega) (by exact hy2)) hM hF (fun h hM hF => ?_)
          exact wp_iret (pc := 97) dX12_forge_97 rfl ⟨by subst c37; simp only [f_forge, e1, c6, c16, c27, if_true, if_false, Bool.true_eq_false, Bool.false_eq_true, reduceIte, reduceCtorEq, Bool.not_true, Bool.not_false, true_and, and_true, and_false, false_and, or_true, true_or, or_false, false_or, not_true_eq_false, not_false_eq_true] <;> rfl, by subst c37; simp only [f_forge, e1, c6, c16, c27, if_true, if_false, Bool.true_eq_false, Bool.false_eq_true, reduceIte, reduceCtorEq, Bool.not_true, Bool.not_false, true_and, and_true, and_false, false_and, or_true, true_or, or_false, false_or, not_true_eq_false, not_false_eq_true] <;> exact hM, hF⟩
        · skip
          refine wp_aload_n (pc := 98) dX12_forge_98 rfl rfl ?_
          refine wp_iload_n (pc := 99) dX12_forge_99 rfl rfl ?_
          refine wp_iconst (pc := 100) (v := 3) dX12_forge_100 (by decide) ?_
          refine wp_iload_n (pc := 101) dX12_forge_101 rfl rfl ?_
          refine mp_call (pc := 102) [_, _, _] dX12_forge_102 rfl cv_X12_339_13 rfl ⟨(Nat.le_of_ble_eq_true rfl), (Nat.le_of_ble_eq_true rfl)⟩ (Nat.le_of_ble_eq_true rfl) ⟨rfl, rfl⟩ (ms_asRow l G x am _ _ _ _ (by omega) (by exact hz) hz2) hM hF (fun h hM hF => ?_)
          exact wp_iret (pc := 105) dX12_forge_105 rfl ⟨by subst c37; simp only [f_forge, e1, c6, c16, c27, if_true, if_false, Bool.true_eq_false, Bool.false_eq_true, reduceIte, reduceCtorEq, Bool.not_true, Bool.not_false, true_and, and_true, and_false, false_and, or_true, true_or, or_false, false_or, not_true_eq_false, not_false_eq_true] <;> rfl, by subst c37; simp only [f_forge, e1, c6, c16, c27, if_true, if_false, Bool.true_eq_false, Bool.false_eq_true, reduceIte, reduceCtorEq, Bool.not_true, Bool.not_false, true_and, and_true, and_false, false_and, or_true, true_or, or_false, false_or, not_true_eq_false, not_false_eq_true] <;> exact hM, hF⟩
        · skip
          refine wp_aload_n (pc := 106) dX12_forge_106 rfl rfl ?_
          refine wp_iload_n (pc := 107) dX12_forge_107 rfl rfl ?_
          refine wp_iconst (pc := 108) (v := 4) dX12_forge_108 (by decide) ?_
          refine wp_iload_n (pc := 109) dX12_forge_109 rfl rfl ?_
          refine mp_call (pc := 110) [_, _, _] dX12_forge_110 rfl cv_X12_339_13 rfl ⟨(Nat.le_of_ble_eq_true rfl), (Nat.le_of_ble_eq_true rfl)⟩ (Nat.le_of_ble_eq_true rfl) ⟨rfl, rfl⟩ (ms_asRow l G x am _ _ _ _ (by omega) (by exact hz) hz2) hM hF (fun h hM hF => ?_)
          exact wp_iret (pc := 113) dX12_forge_113 rfl ⟨by subst c37; simp only [f_forge, e1, c6, c16, c27, if_true, if_false, Bool.true_eq_false, Bool.false_eq_true, reduceIte, reduceCtorEq, Bool.not_true, Bool.not_false, true_and, and_true, and_false, false_and, or_true, true_or, or_false, false_or, not_true_eq_false, not_false_eq_true] <;> rfl, by subst c37; simp only [f_forge, e1, c6, c16, c27, if_true, if_false, Bool.true_eq_false, Bool.false_eq_true, reduceIte, reduceCtorEq, Bool.not_true, Bool.not_false, true_and, and_true, and_false, false_and, or_true, true_or, or_false, false_or, not_true_eq_false, not_false_eq_true] <;> exact hM, hF⟩
        · skip
          refine wp_iload_n (pc := 114) dX12_forge_114 rfl rfl ?_
          refine wp_if_ge (pc := 115) (tgt := 127) dX12_forge_115 (by decide) (fun c115 => ?_) (fun c115 => ?_)
          · skip
            refine wp_aload_n (pc := 127) dX12_forge_127 rfl rfl ?_
            refine wp_iload_n (pc := 128) dX12_forge_128 rfl rfl ?_
            refine mp_call (pc := 129) [_] dX12_forge_129 rfl cv_X12_327_13 rfl ⟨(Nat.le_of_ble_eq_true rfl), (Nat.le_of_ble_eq_true rfl)⟩ (Nat.le_of_ble_eq_true rfl) ⟨rfl, rfl⟩ (ms_done l G x am _ _) hM hF (fun h hM hF => ?_)
            exact wp_iret (pc := 132) dX12_forge_132 rfl ⟨by subst c37; simp only [f_forge, e1, c6, c16, c27, eq_true c115, if_true, if_false, Bool.true_eq_false, Bool.false_eq_true, reduceIte, reduceCtorEq, Bool.not_true, Bool.not_false, true_and, and_true, and_false, false_and, or_true, true_or, or_false, false_or, not_true_eq_false, not_false_eq_true] <;> rfl, by subst c37; simp only [f_forge, e1, c6, c16, c27, eq_true c115, if_true, if_false, Bool.true_eq_false, Bool.false_eq_true, reduceIte, reduceCtorEq, Bool.not_true, Bool.not_false, true_and, and_true, and_false, false_and, or_true, true_or, or_false, false_or, not_true_eq_false, not_false_eq_true] <;> exact hM, hF⟩
          · skip
            refine wp_aload_n (pc := 118) dX12_forge_118 rfl rfl ?_
            refine wp_bipush (pc := 119) (v := 13) dX12_forge_119 (by decide) ?_
            refine mp_call (pc := 121) [_] dX12_forge_121 rfl cv_X12_324_13 rfl ⟨(Nat.le_of_ble_eq_true rfl), (Nat.le_of_ble_eq_true rfl)⟩ (Nat.le_of_ble_eq_true rfl) ⟨rfl, rfl⟩ (ms_refuse l G x am _ _) hM hF (fun h hM hF => ?_)
            refine wp_goto (pc := 124) (tgt := 132) dX12_forge_124 (by decide) ?_
            exact wp_iret (pc := 132) dX12_forge_132 rfl ⟨by subst c37; simp only [f_forge, e1, c6, c16, c27, eq_false c115, if_true, if_false, Bool.true_eq_false, Bool.false_eq_true, reduceIte, reduceCtorEq, Bool.not_true, Bool.not_false, true_and, and_true, and_false, false_and, or_true, true_or, or_false, false_or, not_true_eq_false, not_false_eq_true] <;> rfl, by subst c37; simp only [f_forge, e1, c6, c16, c27, eq_false c115, if_true, if_false, Bool.true_eq_false, Bool.false_eq_true, reduceIte, reduceCtorEq, Bool.not_true, Bool.not_false, true_and, and_true, and_false, false_and, or_true, true_or, or_false, false_or, not_true_eq_false, not_false_eq_true] <;> exact hM, hF⟩
        · skip
          refine wp_aload_n (pc := 133) dX12_forge_133 rfl rfl ?_
          refine wp_iload_n (pc := 134) dX12_forge_134 rfl rfl ?_
          refine wp_iload_n (pc := 135) dX12_forge_135 rfl rfl ?_
          refine mp_call (pc := 136) [_, _] dX12_forge_136 rfl cv_X12_343_13 rfl ⟨(Nat.le_of_ble_eq_true rfl), (Nat.le_of_ble_eq_true rfl)⟩ (Nat.le_of_ble_eq_true rfl) ⟨rfl, rfl⟩ (ms_copied l G x am _ _ _ (by omega) (by exact (fin_t c27).2) (by exact hz) hz2) hM hF (fun h hM hF => ?_)
          exact wp_iret (pc := 139) dX12_forge_139 rfl ⟨by subst c37; simp only [f_forge, e1, c6, c16, c27, if_true, if_false, Bool.true_eq_false, Bool.false_eq_true, reduceIte, reduceCtorEq, Bool.not_true, Bool.not_false, true_and, and_true, and_false, false_and, or_true, true_or, or_false, false_or, not_true_eq_false, not_false_eq_true] <;> rfl, by subst c37; simp only [f_forge, e1, c6, c16, c27, if_true, if_false, Bool.true_eq_false, Bool.false_eq_true, reduceIte, reduceCtorEq, Bool.not_true, Bool.not_false, true_and, and_true, and_false, false_and, or_true, true_or, or_false, false_or, not_true_eq_false, not_false_eq_true] <;> exact hM, hF⟩
        · skip
          refine wp_aload_n (pc := 140) dX12_forge_140 rfl rfl ?_
          refine wp_iload_n (pc := 141) dX12_forge_141 rfl rfl ?_
          refine mp_call (pc := 142) [_] dX12_forge_142 rfl cv_X12_346_13 rfl ⟨(Nat.le_of_ble_eq_true rfl), (Nat.le_of_ble_eq_true rfl)⟩ (Nat.le_of_ble_eq_true rfl) ⟨rfl, rfl⟩ (ms_laid l G x am _ _ (by omega) (by exact hy1)) hM hF (fun h hM hF => ?_)
          exact wp_iret (pc := 145) dX12_forge_145 rfl ⟨by subst c37; simp only [f_forge, e1, c6, c16, c27, if_true, if_false, Bool.true_eq_false, Bool.false_eq_true, reduceIte, reduceCtorEq, Bool.not_true, Bool.not_false, true_and, and_true, and_false, false_and, or_true, true_or, or_false, false_or, not_true_eq_false, not_false_eq_true] <;> rfl, by subst c37; simp only [f_forge, e1, c6, c16, c27, if_true, if_false, Bool.true_eq_false, Bool.false_eq_true, reduceIte, reduceCtorEq, Bool.not_true, Bool.not_false, true_and, and_true, and_false, false_and, or_true, true_or, or_false, false_or, not_true_eq_false, not_false_eq_true] <;> exact hM, hF⟩
        · skip
          refine wp_iload_n (pc := 146) dX12_forge_146 rfl rfl ?_
          refine wp_if_ne (pc := 147) (tgt := 159) dX12_forge_147 (by decide) (fun c147 => ?_) (fun c147 => ?_)
          · skip
            refine wp_aload_n (pc := 159) dX12_forge_159 rfl rfl ?_
            refine wp_sipush (pc := 160) (v := 1000) dX12_forge_160 (by decide) ?_
            refine wp_iload_n (pc := 163) dX12_forge_163 rfl rfl ?_
            refine wp_idiv (pc := 164) dX12_forge_164 c147 ?_
            refine mp_call (pc := 165) [_] dX12_forge_165 rfl cv_X12_327_13 rfl ⟨(Nat.le_of_ble_eq_true rfl), (Nat.le_of_ble_eq_true rfl)⟩ (Nat.le_of_ble_eq_true rfl) ⟨rfl, rfl⟩ (ms_done l G x am _ _) hM hF (fun h hM hF => ?_)
            exact wp_iret (pc := 168) dX12_forge_168 rfl ⟨by subst c37; simp only [f_forge, e1, c6, c16, c27, eq_false c147, if_true, if_false, Bool.true_eq_false, Bool.false_eq_true, reduceIte, reduceCtorEq, Bool.not_true, Bool.not_false, true_and, and_true, and_false, false_and, or_true, true_or, or_false, false_or, not_true_eq_false, not_false_eq_true] <;> rfl, by subst c37; simp only [f_forge, e1, c6, c16, c27, eq_false c147, if_true, if_false, Bool.true_eq_false, Bool.false_eq_true, reduceIte, reduceCtorEq, Bool.not_true, Bool.not_false, true_and, and_true, and_false, false_and, or_true, true_or, or_false, false_or, not_true_eq_false, not_false_eq_true] <;> exact hM, hF⟩
          · skip
            refine wp_aload_n (pc := 150) dX12_forge_150 rfl rfl ?_
            refine wp_bipush (pc := 151) (v := 15) dX12_forge_151 (by decide) ?_
            refine mp_call (pc := 153) [_] dX12_forge_153 rfl cv_X12_324_13 rfl ⟨(Nat.le_of_ble_eq_true rfl), (Nat.le_of_ble_eq_true rfl)⟩ (Nat.le_of_ble_eq_true rfl) ⟨rfl, rfl⟩ (ms_refuse l G x am _ _) hM hF (fun h hM hF => ?_)
            refine wp_goto (pc := 156) (tgt := 168) dX12_forge_156 (by decide) ?_
            exact wp_iret (pc := 168) dX12_forge_168 rfl ⟨by subst c37; simp only [f_forge, e1, c6, c16, c27, eq_true c147, if_true, if_false, Bool.true_eq_false, Bool.false_eq_true, reduceIte, reduceCtorEq, Bool.not_true, Bool.not_false, true_and, and_true, and_false, false_and, or_true, true_or, or_false, false_or, not_true_eq_false, not_false_eq_true] <;> rfl, by subst c37; simp only [f_forge, e1, c6, c16, c27, eq_true c147, if_true, if_false, Bool.true_eq_false, Bool.false_eq_true, reduceIte, reduceCtorEq, Bool.not_true, Bool.not_false, true_and, and_true, and_false, false_and, or_true, true_or, or_false, false_or, not_true_eq_false, not_false_eq_true] <;> exact hM, hF⟩
        · skip
          refine wp_aload_n (pc := 169) dX12_forge_169 rfl rfl ?_
          refine wp_bipush (pc := 170) (v := 10) dX12_forge_170 (by decide) ?_
          refine mp_call (pc := 172) [_] dX12_forge_172 rfl cv_X12_324_13 rfl ⟨(Nat.le_of_ble_eq_true rfl), (Nat.le_of_ble_eq_true rfl)⟩ (Nat.le_of_ble_eq_true rfl) ⟨rfl, rfl⟩ (ms_refuse l G x am _ _) hM hF (fun h hM hF => ?_)
          exact wp_iret (pc := 175) dX12_forge_175 rfl ⟨by rw [f_forge]; simp only [e1, c6, c16, c27, if_true, if_false, Bool.true_eq_false, Bool.false_eq_true, reduceIte, reduceCtorEq, Bool.not_true, Bool.not_false, true_and, and_true, and_false, false_and, or_true, true_or, or_false, false_or, not_true_eq_false, not_false_eq_true]; rw [if_neg (sw_ne c37 (by decide)), if_neg (sw_ne c37 (by decide)), if_neg (sw_ne c37 (by decide)), if_neg (sw_ne c37 (by decide)), if_neg (sw_ne c37 (by decide)), if_neg (sw_ne c37 (by decide)), if_neg (sw_ne c37 (by decide)), if_neg (sw_ne c37 (by decide))], by rw [f_forge]; simp only [e1, c6, c16, c27, if_true, if_false, Bool.true_eq_false, Bool.false_eq_true, reduceIte, reduceCtorEq, Bool.not_true, Bool.not_false, true_and, and_true, and_false, false_and, or_true, true_or, or_false, false_or, not_true_eq_false, not_false_eq_true]; rw [if_neg (sw_ne c37 (by decide)), if_neg (sw_ne c37 (by decide)), if_neg (sw_ne c37 (by decide)), if_neg (sw_ne c37 (by decide)), if_neg (sw_ne c37 (by decide)), if_neg (sw_ne c37 (by decide)), if_neg (sw_ne c37 (by decide)), if_neg (sw_ne c37 (by decide))]; exact hM, hF⟩
      · skip
        refine wp_aload_n (pc := 30) dX12_forge_30 rfl rfl ?_
        refine wp_iconst (pc := 31) (v := 1) dX12_forge_31 (by decide) ?_
        refine mp_call (pc := 32) [_] dX12_forge_32 rfl cv_X12_324_13 rfl ⟨(Nat.le_of_ble_eq_true rfl), (Nat.le_of_ble_eq_true rfl)⟩ (Nat.le_of_ble_eq_true rfl) ⟨rfl, rfl⟩ (ms_refuse l G x am _ _) hM hF (fun h hM hF => ?_)
        exact wp_iret (pc := 35) dX12_forge_35 rfl ⟨by first | (simp only [f_forge, e1, c6, c16, c27, if_true, if_false, Bool.true_eq_false, Bool.false_eq_true, reduceIte, reduceCtorEq, Bool.not_true, Bool.not_false, true_and, and_true, and_false, false_and, or_true, true_or, or_false, false_or, not_true_eq_false, not_false_eq_true]; done) | (simp only [f_forge, c6, c16, c27, if_true, if_false, Bool.true_eq_false, Bool.false_eq_true, reduceIte, reduceCtorEq, Bool.not_true, Bool.not_false, true_and, and_true, and_false, false_and, or_true, true_or, or_false, false_or, not_true_eq_false, not_false_eq_true]; done), by first | (simp only [f_forge, e1, c6, c16, c27, if_true, if_false, Bool.true_eq_false, Bool.false_eq_true, reduceIte, reduceCtorEq, Bool.not_true, Bool.not_false, true_and, and_true, and_false, false_and, or_true, true_or, or_false, false_or, not_true_eq_false, not_false_eq_true] <;> exact hM) | (simp only [f_forge, c6, c16, c27, if_true, if_false, Bool.true_eq_false, Bool.false_eq_true, reduceIte, reduceCtorEq, Bool.not_true, Bool.not_false, true_and, and_true, and_false, false_and, or_true, true_or, or_false, false_or, not_true_eq_false, not_false_eq_true] <;> exact hM), hF⟩
end M11
