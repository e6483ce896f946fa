/-! ===== the reference: keepers, letters ===== -/
section M2
variable (l : Launch) (G : WG) (x : Nat) (am : Nat → Nat) (M : MS)
theorem sw_ne {x lo hi v : Int32} (h : x < lo ∨ hi < x) (hv : ¬ (v < lo ∨ hi < v)) : ¬ x = v := fun e => hv (e ▸ h)
def f_wake (M : MS) (what who is : Int32) : Int32 × MS := if what = 0 ∧ isIx who (nx (M.1 2)) = true then (if M.2.1 5 (nx who) = is then 0 else 1, sS (sI M 5 (nx who) is) 27 (if M.1 27 = who ∧ is = 0 then -1 else M.1 27)) else if what = 1 ∧ isIx who (nx (M.1 6)) = true then (if M.2.1 10 (nx who) = is then 0 else 1, sI M 10 (nx who) is) else (-2, M)
def fallM (M : MS) (w : Nat) : Nat → MS
  | 0 => M
  | t + 1 => sI (sI (fallM M w t) 29 (20 * w + t) 0) 32 (20 * w + t) 0
def fallN (M : MS) (w : Nat) : Nat → Int32
  | 0 => 0
  | t + 1 => fallN M w t + (if (fallM M w t).2.1 29 (20 * w + t) = 0 then 0 else 1)
def f_fall (M : MS) (v : Int32) : Int32 × MS := if isIx v (nx (M.1 6)) = false then (-2, M) else (fallN M (nx v) 20, sI (fallM M (nx v) 20) 10 (nx v) 0)
theorem ms_wake (what : Int32) (who : Int32) (is : Int32)  {K : Nat} (hK : M.1 2 = nI K) (hK5 : K ≤ 5) {W : Nat} (hW : M.1 6 = nI W) (hW2 : W ≤ 20) (his : is = 0 ∨ is = 1) : MSp l G x am mX12_wake [.int what, .int who, .int is] M (some (.int (f_wake M what who is).1)) (f_wake M what who is).2 := by
  refine MSp.intro (lv := [_, _, _, _, _]) (by decide) rfl (Nat.le_of_ble_eq_true rfl) (fun h0 h hM hF => ?_)
  have hKx : nx (M.1 2) = K := by rw [hK]; exact nx_nI (by omega)
  have hWx : nx (M.1 6) = W := by rw [hW]; exact nx_nI (by omega)
  refine wp_iload_n (pc := 0) dX12_wake_0 rfl rfl ?_
  refine wp_if_ne (pc := 1) (tgt := 63) dX12_wake_1 (by decide) (fun c1 => ?_) (fun c1 => ?_)
  · skip
    refine wp_iload_n (pc := 63) dX12_wake_63 rfl rfl ?_
    refine wp_iconst (pc := 64) (v := 1) dX12_wake_64 (by decide) ?_
    refine wp_icmp_ne (pc := 65) (tgt := 103) dX12_wake_65 (by decide) (fun c65 => ?_) (fun c65 => ?_)
    · skip
      refine wp_bipush (pc := 103) (v := (-2)) dX12_wake_103 (by decide) ?_
      exact wp_iret (pc := 105) dX12_wake_105 rfl ⟨by simp only [f_wake, hKx, hWx, eq_false c1, eq_false c65, if_true, if_false, Bool.true_eq_false, Bool.false_eq_true, reduceIte, reduceCtorEq, Bool.not_true, Bool.not_false, true_and, and_true, and_false, false_and, or_true, true_or, or_false, false_or, not_true_eq_false, not_false_eq_true] <;> (try rfl) <;> (rw [nx_nI (show j < 2 ^ 31 by omega)]; simp only [eq_false c1, eq_false c65, if_true, if_false, Bool.true_eq_false, Bool.false_eq_true, reduceIte, reduceCtorEq, Bool.not_true, Bool.not_false, true_and, and_true, and_false, false_and, or_true, true_or, or_false, false_or, not_true_eq_false, not_false_eq_true]), by simp only [f_wake, hKx, hWx, eq_false c1, eq_false c65, if_true, if_false, Bool.true_eq_false, Bool.false_eq_true, reduceIte, reduceCtorEq, Bool.not_true, Bool.not_false, true_and, and_true, and_false, false_and, or_true, true_or, or_false, false_or, not_true_eq_false, not_false_eq_true] <;> (try exact hM) <;> (rw [nx_nI (show j < 2 ^ 31 by omega)]; exact hM), hF⟩
    · skip
      refine wp_aload_n (pc := 68) dX12_wake_68 rfl rfl ?_
      refine wp_iload_n (pc := 69) dX12_wake_69 rfl rfl ?_
      refine mp_call (pc := 70) [_] dX12_wake_70 rfl cv_X12_191_13 rfl ⟨(Nat.le_of_ble_eq_true rfl), (Nat.le_of_ble_eq_true rfl)⟩ (Nat.le_of_ble_eq_true rfl) ⟨rfl, rfl⟩ (ms_isWorker l G x am _ _ (by exact hW) hW2) hM hF (fun h hM hF => ?_)
      refine wp_ifB_eq (pc := 73) (tgt := 103) dX12_wake_73 (by decide) (fun c73 => ?_) (fun c73 => ?_)
      · skip
        refine wp_bipush (pc := 103) (v := (-2)) dX12_wake_103 (by decide) ?_
        exact wp_iret (pc := 105) dX12_wake_105 rfl ⟨by simp only [f_wake, hKx, hWx, eq_false c1, eq_true c65, c73, if_true, if_false, Bool.true_eq_false, Bool.false_eq_true, reduceIte, reduceCtorEq, Bool.not_true, Bool.not_false, true_and, and_true, and_false, false_and, or_true, true_or, or_false, false_or, not_true_eq_false, not_false_eq_true] <;> (try rfl) <;> (rw [nx_nI (show j < 2 ^ 31 by omega)]; simp only [eq_false c1, eq_true c65, c73, if_true, if_false, Bool.true_eq_false, Bool.false_eq_true, reduceIte, reduceCtorEq, Bool.not_true, Bool.not_false, true_and, and_true, and_false, false_and, or_true, true_or, or_false, false_or, not_true_eq_false, not_false_eq_true]), by simp only [f_wake, hKx, hWx, eq_false c1, eq_true c65, c73, if_true, if_false, Bool.true_eq_false, Bool.false_eq_true, reduceIte, reduceCtorEq, Bool.not_true, Bool.not_false, true_and, and_true, and_false, false_and, or_true, true_or, or_false, false_or, not_true_eq_false, not_false_eq_true] <;> (try exact hM) <;> (rw [nx_nI (show j < 2 ^ 31 by omega)]; exact hM), hF⟩
      · obtain ⟨j, hj, rfl⟩ := isIx_t c73 (by omega)
        refine wp_aload_n (pc := 76) dX12_wake_76 rfl rfl ?_
        refine wp_get (pc := 77) dX12_wake_77 fl_X12_29_13 hM.1 rfl ?_
        refine wp_iload_n (pc := 80) dX12_wake_80 rfl rfl ?_
        refine wp_zald (pc := 81) (i := j) dX12_wake_81 (hM.z 10 rfl) ⟨rfl, by omega, by decide⟩ ?_
        refine wp_istore (pc := 82) (lv' := [_, _, _, _, _]) dX12_wake_82 (Nat.le_of_ble_eq_true rfl) rfl rfl ?_
        refine wp_aload_n (pc := 84) dX12_wake_84 rfl rfl ?_
        refine wp_get (pc := 85) dX12_wake_85 fl_X12_29_13 hM.1 rfl ?_
        refine wp_iload_n (pc := 88) dX12_wake_88 rfl rfl ?_
        refine wp_iload_n (pc := 89) dX12_wake_89 rfl rfl ?_
        refine mp_zast (pc := 90) (k := 10) (i := j) dX12_wake_90 hM hF rfl ⟨rfl, by omega, by decide⟩ his (fun h hM hF => ?_)
        refine wp_iload (pc := 91) dX12_wake_91 rfl ?_
        refine wp_iload_n (pc := 93) dX12_wake_93 rfl rfl ?_
        refine wp_icmp_ne (pc := 94) (tgt := 101) dX12_wake_94 (by decide) (fun c94 => ?_) (fun c94 => ?_)
        · skip
          refine wp_iconst (pc := 101) (v := 1) dX12_wake_101 (by decide) ?_
          exact wp_iret (pc := 102) dX12_wake_102 rfl ⟨by simp only [f_wake, hKx, hWx, eq_false c1, eq_true c65, c73, eq_false c94, if_true, if_false, Bool.true_eq_false, Bool.false_eq_true, reduceIte, reduceCtorEq, Bool.not_true, Bool.not_false, true_and, and_true, and_false, false_and, or_true, true_or, or_false, false_or, not_true_eq_false, not_false_eq_true] <;> (try rfl) <;> (rw [nx_nI (show j < 2 ^ 31 by omega)]; simp only [eq_false c1, eq_true c65, c73, eq_false c94, if_true, if_false, Bool.true_eq_false, Bool.false_eq_true, reduceIte, reduceCtorEq, Bool.not_true, Bool.not_false, true_and, and_true, and_false, false_and, or_true, true_or, or_false, false_or, not_true_eq_false, not_false_eq_true]), by simp only [f_wake, hKx, hWx, eq_false c1, eq_true c65, c73, eq_false c94, if_true, if_false, Bool.true_eq_false, Bool.false_eq_true, reduceIte, reduceCtorEq, Bool.not_true, Bool.not_false, true_and, and_true, and_false, false_and, or_true, true_or, or_false, false_or, not_true_eq_false, not_false_eq_true] <;> (try exact hM) <;> (rw [nx_nI (show j < 2 ^ 31 by omega)]; exact hM), hF⟩
        · skip
          refine wp_iconst (pc := 97) (v := 0) dX12_wake_97 (by decide) ?_
          refine wp_goto (pc := 98) (tgt := 102) dX12_wake_98 (by decide) ?_
          exact wp_iret (pc := 102) dX12_wake_102 rfl ⟨by simp only [f_wake, hKx, hWx, eq_false c1, eq_true c65, c73, eq_true c94, if_true, if_false, Bool.true_eq_false, Bool.false_eq_true, reduceIte, reduceCtorEq, Bool.not_true, Bool.not_false, true_and, and_true, and_false, false_and, or_true, true_or, or_false, false_or, not_true_eq_false, not_false_eq_true] <;> (try rfl) <;> (rw [nx_nI (show j < 2 ^ 31 by omega)]; simp only [eq_false c1, eq_true c65, c73, eq_true c94, if_true, if_false, Bool.true_eq_false, Bool.false_eq_true, reduceIte, reduceCtorEq, Bool.not_true, Bool.not_false, true_and, and_true, and_false, false_and, or_true, true_or, or_false, false_or, not_true_eq_false, not_false_eq_true]), by simp only [f_wake, hKx, hWx, eq_false c1, eq_true c65, c73, eq_true c94, if_true, if_false, Bool.true_eq_false, Bool.false_eq_true, reduceIte, reduceCtorEq, Bool.not_true, Bool.not_false, true_and, and_true, and_false, false_and, or_true, true_or, or_false, false_or, not_true_eq_false, not_false_eq_true] <;> (try exact hM) <;> (rw [nx_nI (show j < 2 ^ 31 by omega)]; exact hM), hF⟩
  · skip
    refine wp_aload_n (pc := 4) dX12_wake_4 rfl rfl ?_
    refine wp_iload_n (pc := 5) dX12_wake_5 rfl rfl ?_
    refine mp_call (pc := 6) [_] dX12_wake_6 rfl cv_X12_183_13 rfl ⟨(Nat.le_of_ble_eq_true rfl), (Nat.le_of_ble_eq_true rfl)⟩ (Nat.le_of_ble_eq_true rfl) ⟨rfl, rfl⟩ (ms_isKeeper l G x am _ _ (by exact hK) hK5) hM hF (fun h hM hF => ?_)
    refine wp_ifB_eq (pc := 9) (tgt := 63) dX12_wake_9 (by decide) (fun c9 => ?_) (fun c9 => ?_)
    · skip
      refine wp_iload_n (pc := 63) dX12_wake_63 rfl rfl ?_
      refine wp_iconst (pc := 64) (v := 1) dX12_wake_64 (by decide) ?_
      refine wp_icmp_ne (pc := 65) (tgt := 103) dX12_wake_65 (by decide) (fun c65 => ?_) (fun c65 => ?_)
      · skip
        refine wp_bipush (pc := 103) (v := (-2)) dX12_wake_103 (by decide) ?_
        exact wp_iret (pc := 105) dX12_wake_105 rfl ⟨by simp only [f_wake, hKx, hWx, eq_true c1, c9, eq_false c65, if_true, if_false, Bool.true_eq_false, Bool.false_eq_true, reduceIte, reduceCtorEq, Bool.not_true, Bool.not_false, true_and, and_true, and_false, false_and, or_true, true_or, or_false, false_or, not_true_eq_false, not_false_eq_true] <;> (try rfl) <;> (rw [nx_nI (show j < 2 ^ 31 by omega)]; simp only [eq_true c1, c9, eq_false c65, if_true, if_false, Bool.true_eq_false, Bool.false_eq_true, reduceIte, reduceCtorEq, Bool.not_true, Bool.not_false, true_and, and_true, and_false, false_and, or_true, true_or, or_false, false_or, not_true_eq_false, not_false_eq_true]), by simp only [f_wake, hKx, hWx, eq_true c1, c9, eq_false c65, if_true, if_false, Bool.true_eq_false, Bool.false_eq_true, reduceIte, reduceCtorEq, Bool.not_true, Bool.not_false, true_and, and_true, and_false, false_and, or_true, true_or, or_false, false_or, not_true_eq_false, not_false_eq_true] <;> (try exact hM) <;> (rw [nx_nI (show j < 2 ^ 31 by omega)]; exact hM), hF⟩
      · skip
        refine wp_aload_n (pc := 68) dX12_wake_68 rfl rfl ?_
        refine wp_iload_n (pc := 69) dX12_wake_69 rfl rfl ?_
        refine mp_call (pc := 70) [_] dX12_wake_70 rfl cv_X12_191_13 rfl ⟨(Nat.le_of_ble_eq_true rfl), (Nat.le_of_ble_eq_true rfl)⟩ (Nat.le_of_ble_eq_true rfl) ⟨rfl, rfl⟩ (ms_isWorker l G x am _ _ (by exact hW) hW2) hM hF (fun h hM hF => ?_)
        refine wp_ifB_eq (pc := 73) (tgt := 103) dX12_wake_73 (by decide) (fun c73 => ?_) (fun c73 => ?_)
        · skip
          refine wp_bipush (pc := 103) (v := (-2)) dX12_wake_103 (by decide) ?_
          exact wp_iret (pc := 105) dX12_wake_105 rfl ⟨by simp only [f_wake, hKx, hWx, eq_true c1, c9, eq_true c65, c73, if_true, if_false, Bool.true_eq_false, Bool.false_eq_true, reduceIte, reduceCtorEq, Bool.not_true, Bool.not_false, true_and, and_true, and_false, false_and, or_true, true_or, or_false, false_or, not_true_eq_false, not_false_eq_true] <;> (try rfl) <;> (rw [nx_nI (show j < 2 ^ 31 by omega)]; simp only [eq_true c1, c9, eq_true c65, c73, if_true, if_false, Bool.true_eq_false, Bool.false_eq_true, reduceIte, reduceCtorEq, Bool.not_true, Bool.not_false, true_and, and_true, and_false, false_and, or_true, true_or, or_false, false_or, not_true_eq_false, not_false_eq_true]), by simp only [f_wake, hKx, hWx, eq_true c1, c9, eq_true c65, c73, if_true, if_false, Bool.true_eq_false, Bool.false_eq_true, reduceIte, reduceCtorEq, Bool.not_true, Bool.not_false, true_and, and_true, and_false, false_and, or_true, true_or, or_false, false_or, not_true_eq_false, not_false_eq_true] <;> (try exact hM) <;> (rw [nx_nI (show j < 2 ^ 31 by omega)]; exact hM), hF⟩
        · obtain ⟨j, hj, rfl⟩ := isIx_t c73 (by omega)
          refine wp_aload_n (pc := 76) dX12_wake_76 rfl rfl ?_
          refine wp_get (pc := 77) dX12_wake_77 fl_X12_29_13 hM.1 rfl ?_
          refine wp_iload_n (pc := 80) dX12_wake_80 rfl rfl ?_
          refine wp_zald (pc := 81) (i := j) dX12_wake_81 (hM.z 10 rfl) ⟨rfl, by omega, by decide⟩ ?_
          refine wp_istore (pc := 82) (lv' := [_, _, _, _, _]) dX12_wake_82 (Nat.le_of_ble_eq_true rfl) rfl rfl ?_
          refine wp_aload_n (pc := 84) dX12_wake_84 rfl rfl ?_
          refine wp_get (pc := 85) dX12_wake_85 fl_X12_29_13 hM.1 rfl ?_
          refine wp_iload_n (pc := 88) dX12_wake_88 rfl rfl ?_
          refine wp_iload_n (pc := 89) dX12_wake_89 rfl rfl ?_
          refine mp_zast (pc := 90) (k := 10) (i := j) dX12_wake_90 hM hF rfl ⟨rfl, by omega, by decide⟩ his (fun h hM hF => ?_)
          refine wp_iload (pc := 91) dX12_wake_91 rfl ?_
          refine wp_iload_n (pc := 93) dX12_wake_93 rfl rfl ?_
          refine wp_icmp_ne (pc := 94) (tgt := 101) dX12_wake_94 (by decide) (fun c94 => ?_) (fun c94 => ?_)
          · skip
            refine wp_iconst (pc := 101) (v := 1) dX12_wake_101 (by decide) ?_
            exact wp_iret (pc := 102) dX12_wake_102 rfl ⟨by simp only [f_wake, hKx, hWx, eq_true c1, c9, eq_true c65, c73, eq_false c94, if_true, if_false, Bool.true_eq_false, Bool.false_eq_true, reduceIte, reduceCtorEq, Bool.not_true, Bool.not_false, true_and, and_true, and_false, false_and, or_true, true_or, or_false, false_or, not_true_eq_false, not_false_eq_true] <;> (try rfl) <;> (rw [nx_nI (show j < 2 ^ 31 by omega)]; simp only [eq_true c1, c9, eq_true c65, c73, eq_false c94, if_true, if_false, Bool.true_eq_false, Bool.false_eq_true, reduceIte, reduceCtorEq, Bool.not_true, Bool.not_false, true_and, and_true, and_false, false_and, or_true, true_or, or_false, false_or, not_true_eq_false, not_false_eq_true]), by simp only [f_wake, hKx, hWx, eq_true c1, c9, eq_true c65, c73, eq_false c94, if_true, if_false, Bool.true_eq_false, Bool.false_eq_true, reduceIte, reduceCtorEq, Bool.not_true, Bool.not_false, true_and, and_true, and_false, false_and, or_true, true_or, or_false, false_or, not_true_eq_false, not_false_eq_true] <;> (try exact hM) <;> (rw [nx_nI (show j < 2 ^ 31 by omega)]; exact hM), hF⟩
          · skip
            refine wp_iconst (pc := 97) (v := 0) dX12_wake_97 (by decide) ?_
            refine wp_goto (pc := 98) (tgt := 102) dX12_wake_98 (by decide) ?_
            exact wp_iret (pc := 102) dX12_wake_102 rfl ⟨by simp only [f_wake, hKx, hWx, eq_true c1, c9, eq_true c65, c73, eq_true c94, if_true, if_false, Bool.true_eq_false, Bool.false_eq_true, reduceIte, reduceCtorEq, Bool.not_true, Bool.not_false, true_and, and_true, and_false, false_and, or_true, true_or, or_false, false_or, not_true_eq_false, not_false_eq_true] <;> (try rfl) <;> (rw [nx_nI (show j < 2 ^ 31 by omega)]; simp only [eq_true c1, c9, eq_true c65, c73, eq_true c94, if_true, if_false, Bool.true_eq_false, Bool.false_eq_true, reduceIte, reduceCtorEq, Bool.not_true, Bool.not_false, true_and, and_true, and_false, false_and, or_true, true_or, or_false, false_or, not_true_eq_false, not_false_eq_true]), by simp only [f_wake, hKx, hWx, eq_true c1, c9, eq_true c65, c73, eq_true c94, if_true, if_false, Bool.true_eq_false, Bool.false_eq_true, reduceIte, reduceCtorEq, Bool.not_true, Bool.not_false, true_and, and_true, and_false, false_and, or_true, true_or, or_false, false_or, not_true_eq_false, not_false_eq_true] <;> (try exact hM) <;> (rw [nx_nI (show j < 2 ^ 31 by omega)]; exact hM), hF⟩
    · obtain ⟨j, hj, rfl⟩ := isIx_t c9 (by omega)
      refine wp_aload_n (pc := 12) dX12_wake_12 rfl rfl ?_
      refine wp_get (pc := 13) dX12_wake_13 fl_X12_16_13 hM.1 rfl ?_
      refine wp_iload_n (pc := 16) dX12_wake_16 rfl rfl ?_
      refine wp_zald (pc := 17) (i := j) dX12_wake_17 (hM.z 5 rfl) ⟨rfl, by omega, by decide⟩ ?_
      refine wp_istore (pc := 18) (lv' := [_, _, _, _, _]) dX12_wake_18 (Nat.le_of_ble_eq_true rfl) rfl rfl ?_
      refine wp_aload_n (pc := 20) dX12_wake_20 rfl rfl ?_
      refine wp_get (pc := 21) dX12_wake_21 fl_X12_16_13 hM.1 rfl ?_
      refine wp_iload_n (pc := 24) dX12_wake_24 rfl rfl ?_
      refine wp_iload_n (pc := 25) dX12_wake_25 rfl rfl ?_
      refine mp_zast (pc := 26) (k := 5) (i := j) dX12_wake_26 hM hF rfl ⟨rfl, by omega, by decide⟩ his (fun h hM hF => ?_)
      refine wp_aload_n (pc := 27) dX12_wake_27 rfl rfl ?_
      refine wp_aload_n (pc := 28) dX12_wake_28 rfl rfl ?_
      refine wp_get (pc := 29) dX12_wake_29 fl_X12_78_13 hM.1 rfl ?_
      refine wp_iload_n (pc := 32) dX12_wake_32 rfl rfl ?_
      refine wp_icmp_ne (pc := 33) (tgt := 44) dX12_wake_33 (by decide) (fun c33 => ?_) (fun c33 => ?_)
      · have c33 : ¬ M.1 27 = nI j := c33
        refine wp_aload_n (pc := 44) dX12_wake_44 rfl rfl ?_
        refine wp_get (pc := 45) dX12_wake_45 fl_X12_78_13 hM.1 rfl ?_
        refine mp_putS (pc := 48) dX12_wake_48 fl_X12_78_13 hM hF rfl rfl (by decide) rfl (fun h hM hF => ?_)
        refine wp_iload (pc := 51) dX12_wake_51 rfl ?_
        refine wp_iload_n (pc := 53) dX12_wake_53 rfl rfl ?_
        refine wp_icmp_ne (pc := 54) (tgt := 61) dX12_wake_54 (by decide) (fun c54 => ?_) (fun c54 => ?_)
        · skip
          refine wp_iconst (pc := 61) (v := 1) dX12_wake_61 (by decide) ?_
          exact wp_iret (pc := 62) dX12_wake_62 rfl ⟨by simp only [f_wake, hKx, hWx, eq_true c1, c9, eq_false c33, eq_false c54, if_true, if_false, Bool.true_eq_false, Bool.false_eq_true, reduceIte, reduceCtorEq, Bool.not_true, Bool.not_false, true_and, and_true, and_false, false_and, or_true, true_or, or_false, false_or, not_true_eq_false, not_false_eq_true] <;> (try rfl) <;> (rw [nx_nI (show j < 2 ^ 31 by omega)]; simp only [eq_true c1, c9, eq_false c33, eq_false c54, if_true, if_false, Bool.true_eq_false, Bool.false_eq_true, reduceIte, reduceCtorEq, Bool.not_true, Bool.not_false, true_and, and_true, and_false, false_and, or_true, true_or, or_false, false_or, not_true_eq_false, not_false_eq_true]), by simp only [f_wake, hKx, hWx, eq_true c1, c9, eq_false c33, eq_false c54, if_true, if_false, Bool.true_eq_false, Bool.false_eq_true, reduceIte, reduceCtorEq, Bool.not_true, Bool.not_false, true_and, and_true, and_false, false_and, or_true, true_or, or_false, false_or, not_true_eq_false, not_false_eq_true] <;> (try exact hM) <;> (rw [nx_nI (show j < 2 ^ 31 by omega)]; exact hM), hF⟩
        · skip
          refine wp_iconst (pc := 57) (v := 0) dX12_wake_57 (by decide) ?_
          refine wp_goto (pc := 58) (tgt := 62) dX12_wake_58 (by decide) ?_
          exact wp_iret (pc := 62) dX12_wake_62 rfl ⟨by simp only [f_wake, hKx, hWx, eq_true c1, c9, eq_false c33, eq_true c54, if_true, if_false, Bool.true_eq_false, Bool.false_eq_true, reduceIte, reduceCtorEq, Bool.not_true, Bool.not_false, true_and, and_true, and_false, false_and, or_true, true_or, or_false, false_or, not_true_eq_false, not_false_eq_true] <;> (try rfl) <;> (rw [nx_nI (show j < 2 ^ 31 by omega)]; simp only [eq_true c1, c9, eq_false c33, eq_true c54, if_true, if_false, Bool.true_eq_false, Bool.false_eq_true, reduceIte, reduceCtorEq, Bool.not_true, Bool.not_false, true_and, and_true, and_false, false_and, or_true, true_or, or_false, false_or, not_true_eq_false, not_false_eq_true]), by simp only [f_wake, hKx, hWx, eq_true c1, c9, eq_false c33, eq_true c54, if_true, if_false, Bool.true_eq_false, Bool.false_eq_true, reduceIte, reduceCtorEq, Bool.not_true, Bool.not_false, true_and, and_true, and_false, false_and, or_true, true_or, or_false, false_or, not_true_eq_false, not_false_eq_true] <;> (try exact hM) <;> (rw [nx_nI (show j < 2 ^ 31 by omega)]; exact hM), hF⟩
      · have c33 : M.1 27 = nI j := c33
        refine wp_iload_n (pc := 36) dX12_wake_36 rfl rfl ?_
        refine wp_if_ne (pc := 37) (tgt := 44) dX12_wake_37 (by decide) (fun c37 => ?_) (fun c37 => ?_)
        · skip
          refine wp_aload_n (pc := 44) dX12_wake_44 rfl rfl ?_
          refine wp_get (pc := 45) dX12_wake_45 fl_X12_78_13 hM.1 rfl ?_
          refine mp_putS (pc := 48) dX12_wake_48 fl_X12_78_13 hM hF rfl rfl (by decide) rfl (fun h hM hF => ?_)
          refine wp_iload (pc := 51) dX12_wake_51 rfl ?_
          refine wp_iload_n (pc := 53) dX12_wake_53 rfl rfl ?_
          refine wp_icmp_ne (pc := 54) (tgt := 61) dX12_wake_54 (by decide) (fun c54 => ?_) (fun c54 => ?_)
          · skip
            refine wp_iconst (pc := 61) (v := 1) dX12_wake_61 (by decide) ?_
            exact wp_iret (pc := 62) dX12_wake_62 rfl ⟨by simp only [f_wake, hKx, hWx, eq_true c1, c9, eq_true c33, eq_false c37, eq_false c54, if_true, if_false, Bool.true_eq_false, Bool.false_eq_true, reduceIte, reduceCtorEq, Bool.not_true, Bool.not_false, true_and, and_true, and_false, false_and, or_true, true_or, or_false, false_or, not_true_eq_false, not_false_eq_true] <;> (try rfl) <;> (rw [nx_nI (show j < 2 ^ 31 by omega)]; simp only [eq_true c1, c9, eq_true c33, eq_false c37, eq_false c54, if_true, if_false, Bool.true_eq_false, Bool.false_eq_true, reduceIte, reduceCtorEq, Bool.not_true, Bool.not_false, true_and, and_true, and_false, false_and, or_true, true_or, or_false, false_or, not_true_eq_false, not_false_eq_true]), by simp only [f_wake, hKx, hWx, eq_true c1, c9, eq_true c33, eq_false c37, eq_false c54, if_true, if_false, Bool.true_eq_false, Bool.false_eq_true, reduceIte, reduceCtorEq, Bool.not_true, Bool.not_false, true_and, and_true, and_false, false_and, or_true, true_or, or_false, false_or, not_true_eq_false, not_false_eq_true] <;> (try exact hM) <;> (rw [nx_nI (show j < 2 ^ 31 by omega)]; exact hM), hF⟩
          · skip
            refine wp_iconst (pc := 57) (v := 0) dX12_wake_57 (by decide) ?_
            refine wp_goto (pc := 58) (tgt := 62) dX12_wake_58 (by decide) ?_
            exact wp_iret (pc := 62) dX12_wake_62 rfl ⟨by simp only [f_wake, hKx, hWx, eq_true c1, c9, eq_true c33, eq_false c37, eq_true c54, if_true, if_false, Bool.true_eq_false, Bool.false_eq_true, reduceIte, reduceCtorEq, Bool.not_true, Bool.not_false, true_and, and_true, and_false, false_and, or_true, true_or, or_false, false_or, not_true_eq_false, not_false_eq_true] <;> (try rfl) <;> (rw [nx_nI (show j < 2 ^ 31 by omega)]; simp only [eq_true c1, c9, eq_true c33, eq_false c37, eq_true c54, if_true, if_false, Bool.true_eq_false, Bool.false_eq_true, reduceIte, reduceCtorEq, Bool.not_true, Bool.not_false, true_and, and_true, and_false, false_and, or_true, true_or, or_false, false_or, not_true_eq_false, not_false_eq_true]), by simp only [f_wake, hKx, hWx, eq_true c1, c9, eq_true c33, eq_false c37, eq_true c54, if_true, if_false, Bool.true_eq_false, Bool.false_eq_true, reduceIte, reduceCtorEq, Bool.not_true, Bool.not_false, true_and, and_true, and_false, false_and, or_true, true_or, or_false, false_or, not_true_eq_false, not_false_eq_true] <;> (try exact hM) <;> (rw [nx_nI (show j < 2 ^ 31 by omega)]; exact hM), hF⟩
        · skip
          refine wp_iconst (pc := 40) (v := (-1)) dX12_wake_40 (by decide) ?_
          refine wp_goto (pc := 41) (tgt := 48) dX12_wake_41 (by decide) ?_
          refine mp_putS (pc := 48) dX12_wake_48 fl_X12_78_13 hM hF rfl rfl (by decide) rfl (fun h hM hF => ?_)
          refine wp_iload (pc := 51) dX12_wake_51 rfl ?_
          refine wp_iload_n (pc := 53) dX12_wake_53 rfl rfl ?_
          refine wp_icmp_ne (pc := 54) (tgt := 61) dX12_wake_54 (by decide) (fun c54 => ?_) (fun c54 => ?_)
          · skip
            refine wp_iconst (pc := 61) (v := 1) dX12_wake_61 (by decide) ?_
            exact wp_iret (pc := 62) dX12_wake_62 rfl ⟨by simp only [f_wake, hKx, hWx, eq_true c1, c9, eq_true c33, eq_true c37, eq_false c54, if_true, if_false, Bool.true_eq_false, Bool.false_eq_true, reduceIte, reduceCtorEq, Bool.not_true, Bool.not_false, true_and, and_true, and_false, false_and, or_true, true_or, or_false, false_or, not_true_eq_false, not_false_eq_true] <;> (try rfl) <;> (rw [nx_nI (show j < 2 ^ 31 by omega)]; simp only [eq_true c1, c9, eq_true c33, eq_true c37, eq_false c54, if_true, if_false, Bool.true_eq_false, Bool.false_eq_true, reduceIte, reduceCtorEq, Bool.not_true, Bool.not_false, true_and, and_true, and_false, false_and, or_true, true_or, or_false, false_or, not_true_eq_false, not_false_eq_true]), by simp only [f_wake, hKx, hWx, eq_true c1, c9, eq_true c33, eq_true c37, eq_false c54, if_true, if_false, Bool.true_eq_false, Bool.false_eq_true, reduceIte, reduceCtorEq, Bool.not_true, Bool.not_false, true_and, and_true, and_false, false_and, or_true, true_or, or_false, false_or, not_true_eq_false, not_false_eq_true] <;> (try exact hM) <;> (rw [nx_nI (show j < 2 ^ 31 by omega)]; exact hM), hF⟩
          · skip
            refine wp_iconst (pc := 57) (v := 0) dX12_wake_57 (by decide) ?_
            refine wp_goto (pc := 58) (tgt := 62) dX12_wake_58 (by decide) ?_
            exact wp_iret (pc := 62) dX12_wake_62 rfl ⟨by simp only [f_wake, hKx, hWx, eq_true c1, c9, eq_true c33, eq_true c37, eq_true c54, if_true, if_false, Bool.true_eq_false, Bool.false_eq_true, reduceIte, reduceCtorEq, Bool.not_true, Bool.not_false, true_and, and_true, and_false, false_and, or_true, true_or, or_false, false_or, not_true_eq_false, not_false_eq_true] <;> (try rfl) <;> (rw [nx_nI (show j < 2 ^ 31 by omega)]; simp only [eq_true c1, c9, eq_true c33, eq_true c37, eq_true c54, if_true, if_false, Bool.true_eq_false, Bool.false_eq_true, reduceIte, reduceCtorEq, Bool.not_true, Bool.not_false, true_and, and_true, and_false, false_and, or_true, true_or, or_false, false_or, not_true_eq_false, not_false_eq_true]), by simp only [f_wake, hKx, hWx, eq_true c1, c9, eq_true c33, eq_true c37, eq_true c54, if_true, if_false, Bool.true_eq_false, Bool.false_eq_true, reduceIte, reduceCtorEq, Bool.not_true, Bool.not_false, true_and, and_true, and_false, false_and, or_true, true_or, or_false, false_or, not_true_eq_false, not_false_eq_true] <;> (try exact hM) <;> (rw [nx_nI (show j < 2 ^ 31 by omega)]; exact hM), hF⟩
theorem ms_fall (v : Int32) {W : Nat} (hW : M.1 6 = nI W) (hW2 : W ≤ 20) : MSp l G x am mX12_fall [.int v] M (some (.int (f_fall M v).1)) ((f_fall M v).2) := by
  refine MSp.intro (lv := [_, _, _, _]) (by decide) rfl (Nat.le_of_ble_eq_true rfl) (fun h0 h hM hF => ?_)
  generalize hQ0 : (fun (w9 : Option Value) (h' : Hp) => w9 = (some (.int (f_fall M v).1)) ∧ InM x am ((f_fall M v).2) h' ∧ Fr x am h0 h') = Q0
  have hWx : nx (M.1 6) = W := by rw [hW]; exact nx_nI (by omega)
  refine wp_aload_n (pc := 0) dX12_fall_0 rfl rfl ?_
  refine wp_iload_n (pc := 1) dX12_fall_1 rfl rfl ?_
  refine mp_call (pc := 2) [_] dX12_fall_2 rfl cv_X12_191_13 rfl ⟨(Nat.le_of_ble_eq_true rfl), (Nat.le_of_ble_eq_true rfl)⟩ (Nat.le_of_ble_eq_true rfl) ⟨rfl, rfl⟩ (ms_isWorker l G x am _ _ (by exact hW) hW2) hM hF (fun h hM hF => ?_)
  refine wp_ifB_ne (pc := 5) (tgt := 11) dX12_fall_5 (by decide) (fun c5 => ?_) (fun c5 => ?_)
  · obtain ⟨j, hj, rfl⟩ := isIx_t c5 (by omega)
    refine wp_iconst (pc := 11) (v := 0) dX12_fall_11 (by decide) ?_
    refine wp_istore_n (pc := 12) (lv' := [_, _, _, _]) dX12_fall_12 rfl (Nat.le_of_ble_eq_true rfl) rfl rfl ?_
    refine wp_iconst (pc := 13) (v := 0) dX12_fall_13 (by decide) ?_
    refine wp_istore_n (pc := 14) (lv' := [_, _, _, _]) dX12_fall_14 rfl (Nat.le_of_ble_eq_true rfl) rfl rfl ?_
    have loop : ∀ i, i ≤ 20 → ∀ h, InM x am (fallM M j i) h → Fr x am h0 h → wp l G mX12_fall (zM G mX12_fall Q0) 15 [some (.ref x), some (.int (nI j)), some (.int (fallN M j i)), some (.int (nI i))] [] h 0 0 := by
      refine loopU _ 20 (fun i hi ih => ?_) ?_
      · intro h hM hF
        refine wp_iload_n (pc := 15) dX12_fall_15 rfl rfl ?_
        refine wp_bipush (pc := 16) (v := 20) dX12_fall_16 (by decide) ?_
        refine wp_icmp_ge (pc := 18) (tgt := 73) dX12_fall_18 (by decide) (fun z => absurd z (nI_ge (b := 20) hi (by decide))) (fun _ => ?_)
        refine wp_iload_n (pc := 21) dX12_fall_21 rfl rfl ?_
        refine wp_aload_n (pc := 22) dX12_fall_22 rfl rfl ?_
        refine wp_get (pc := 23) dX12_fall_23 fl_X12_82_13 hM.1 rfl ?_
        refine wp_bipush (pc := 26) (v := 20) dX12_fall_26 (by decide) ?_
        refine wp_iload_n (pc := 28) dX12_fall_28 rfl rfl ?_
        refine wp_imul (pc := 29) dX12_fall_29 ?_
        refine wp_iload_n (pc := 30) dX12_fall_30 rfl rfl ?_
        refine wp_iadd (pc := 31) dX12_fall_31 ?_
        refine wp_zald (pc := 32) (i := ((20 * j) + i)) dX12_fall_32 (hM.z 29 rfl) ⟨by simp only [nl1, nl5, nl8, nl20, pk_mul, nI_add], by omega, by decide⟩ ?_
        refine wp_if_eq (pc := 33) (tgt := 40) dX12_fall_33 (by decide) (fun c33 => ?_) (fun c33 => ?_)
        · skip
          refine wp_iconst (pc := 40) (v := 0) dX12_fall_40 (by decide) ?_
          refine wp_iadd (pc := 41) dX12_fall_41 ?_
          refine wp_istore_n (pc := 42) (lv' := [_, _, _, _]) dX12_fall_42 rfl (Nat.le_of_ble_eq_true rfl) rfl rfl ?_
          refine wp_aload_n (pc := 43) dX12_fall_43 rfl rfl ?_
          refine wp_get (pc := 44) dX12_fall_44 fl_X12_82_13 hM.1 rfl ?_
          refine wp_bipush (pc := 47) (v := 20) dX12_fall_47 (by decide) ?_
          refine wp_iload_n (pc := 49) dX12_fall_49 rfl rfl ?_
          refine wp_imul (pc := 50) dX12_fall_50 ?_
          refine wp_iload_n (pc := 51) dX12_fall_51 rfl rfl ?_
          refine wp_iadd (pc := 52) dX12_fall_52 ?_
          refine wp_iconst (pc := 53) (v := 0) dX12_fall_53 (by decide) ?_
          refine mp_zast (pc := 54) (k := 29) (i := ((20 * j) + i)) dX12_fall_54 hM hF rfl ⟨by simp only [nl1, nl5, nl8, nl20, pk_mul, nI_add], by omega, by decide⟩ (by decide) (fun h hM hF => ?_)
          refine wp_aload_n (pc := 55) dX12_fall_55 rfl rfl ?_
          refine wp_get (pc := 56) dX12_fall_56 fl_X12_91_13 hM.1 rfl ?_
          refine wp_bipush (pc := 59) (v := 20) dX12_fall_59 (by decide) ?_
          refine wp_iload_n (pc := 61) dX12_fall_61 rfl rfl ?_
          refine wp_imul (pc := 62) dX12_fall_62 ?_
          refine wp_iload_n (pc := 63) dX12_fall_63 rfl rfl ?_
          refine wp_iadd (pc := 64) dX12_fall_64 ?_
          refine wp_iconst (pc := 65) (v := 0) dX12_fall_65 (by decide) ?_
          refine mp_iast (pc := 66) (k := 32) (i := ((20 * j) + i)) dX12_fall_66 hM hF rfl ⟨by simp only [nl1, nl5, nl8, nl20, pk_mul, nI_add], by omega, by decide⟩ (fun h hM hF => ?_)
          refine wp_iinc (pc := 67) (v := _ + 1) (lv' := [_, _, _, _]) dX12_fall_67 rfl rfl rfl rfl ?_
          refine wp_goto (pc := 70) (tgt := 15) dX12_fall_70 (by decide) ?_
          exact wp_lv (ih h hM hF) (by simp [fallN, nI_1, c33])
        · skip
          refine wp_iconst (pc := 36) (v := 1) dX12_fall_36 (by decide) ?_
          refine wp_goto (pc := 37) (tgt := 41) dX12_fall_37 (by decide) ?_
          refine wp_iadd (pc := 41) dX12_fall_41 ?_
          refine wp_istore_n (pc := 42) (lv' := [_, _, _, _]) dX12_fall_42 rfl (Nat.le_of_ble_eq_true rfl) rfl rfl ?_
          refine wp_aload_n (pc := 43) dX12_fall_43 rfl rfl ?_
          refine wp_get (pc := 44) dX12_fall_44 fl_X12_82_13 hM.1 rfl ?_
          refine wp_bipush (pc := 47) (v := 20) dX12_fall_47 (by decide) ?_
          refine wp_iload_n (pc := 49) dX12_fall_49 rfl rfl ?_
          refine wp_imul (pc := 50) dX12_fall_50 ?_
          refine wp_iload_n (pc := 51) dX12_fall_51 rfl rfl ?_
          refine wp_iadd (pc := 52) dX12_fall_52 ?_
          refine wp_iconst (pc := 53) (v := 0) dX12_fall_53 (by decide) ?_
          refine mp_zast (pc := 54) (k := 29) (i := ((20 * j) + i)) dX12_fall_54 hM hF rfl ⟨by simp only [nl1, nl5, nl8, nl20, pk_mul, nI_add], by omega, by decide⟩ (by decide) (fun h hM hF => ?_)
          refine wp_aload_n (pc := 55) dX12_fall_55 rfl rfl ?_
          refine wp_get (pc := 56) dX12_fall_56 fl_X12_91_13 hM.1 rfl ?_
          refine wp_bipush (pc := 59) (v := 20) dX12_fall_59 (by decide) ?_
          refine wp_iload_n (pc := 61) dX12_fall_61 rfl rfl ?_
          refine wp_imul (pc := 62) dX12_fall_62 ?_
          refine wp_iload_n (pc := 63) dX12_fall_63 rfl rfl ?_
          refine wp_iadd (pc := 64) dX12_fall_64 ?_
          refine wp_iconst (pc := 65) (v := 0) dX12_fall_65 (by decide) ?_
          refine mp_iast (pc := 66) (k := 32) (i := ((20 * j) + i)) dX12_fall_66 hM hF rfl ⟨by simp only [nl1, nl5, nl8, nl20, pk_mul, nI_add], by omega, by decide⟩ (fun h hM hF => ?_)
          refine wp_iinc (pc := 67) (v := _ + 1) (lv' := [_, _, _, _]) dX12_fall_67 rfl rfl rfl rfl ?_
          refine wp_goto (pc := 70) (tgt := 15) dX12_fall_70 (by decide) ?_
          exact wp_lv (ih h hM hF) (by simp [fallN, nI_1, c33])
      · intro h hM hF
        refine wp_iload_n (pc := 15) dX12_fall_15 rfl rfl ?_
        refine wp_bipush (pc := 16) (v := 20) dX12_fall_16 (by decide) ?_
        refine wp_icmp_ge (pc := 18) (tgt := 73) dX12_fall_18 (by decide) (fun _ => ?_) (fun z => absurd (by decide) z)
        refine wp_aload_n (pc := 73) dX12_fall_73 rfl rfl ?_
        refine wp_get (pc := 74) dX12_fall_74 fl_X12_29_13 hM.1 rfl ?_
        refine wp_iload_n (pc := 77) dX12_fall_77 rfl rfl ?_
        refine wp_iconst (pc := 78) (v := 0) dX12_fall_78 (by decide) ?_
        refine mp_zast (pc := 79) (k := 10) (i := j) dX12_fall_79 hM hF rfl ⟨rfl, by omega, by decide⟩ (by decide) (fun h hM hF => ?_)
        refine wp_iload_n (pc := 80) dX12_fall_80 rfl rfl ?_
        exact wp_iret (pc := 81) dX12_fall_81 rfl (by rw [← hQ0]; exact ⟨by simp only [f_fall, hWx, c5, if_true, if_false, Bool.true_eq_false, Bool.false_eq_true, reduceIte, reduceCtorEq, Bool.not_true, Bool.not_false, true_and, and_true, and_false, false_and, or_true, true_or, or_false, false_or, not_true_eq_false, not_false_eq_true, nx_nI (show j < 2 ^ 31 by omega)], by simp only [f_fall, hWx, c5, if_true, if_false, Bool.true_eq_false, Bool.false_eq_true, reduceIte, reduceCtorEq, Bool.not_true, Bool.not_false, true_and, and_true, and_false, false_and, or_true, true_or, or_false, false_or, not_true_eq_false, not_false_eq_true, nx_nI (show j < 2 ^ 31 by omega)] <;> exact hM, hF⟩)
    exact loop 0 (Nat.zero_le _) h hM hF
  · skip
    refine wp_bipush (pc := 8) (v := (-2)) dX12_fall_8 (by decide) ?_
    exact wp_iret (pc := 10) dX12_fall_10 rfl (by rw [← hQ0]; exact ⟨by simp only [f_fall, hWx, c5, if_true, if_false, Bool.true_eq_false, Bool.false_eq_true, reduceIte, reduceCtorEq, Bool.not_true, Bool.not_false, true_and, and_true, and_false, false_and, or_true, true_or, or_false, false_or, not_true_eq_false, not_false_eq_true], by simp only [f_fall, hWx, c5, if_true, if_false, Bool.true_eq_false, Bool.false_eq_true, reduceIte, reduceCtorEq, Bool.not_true, Bool.not_false, true_and, and_true, and_false, false_and, or_true, true_or, or_false, false_or, not_true_eq_false, not_false_eq_true] <;> exact hM, hF⟩)
def sndM (M : MS) (L : Nat) (k w kp t : Int32) : MS := sL (sL (sI (sI (sI (sI (sI (sI (sI (sI (sS M 35 (M.1 35 + 1)) 36 L k) 37 L w) 38 L kp) 39 L t) 40 L 0) 41 L 0) 42 L 0) 43 L 0) 44 L 0) 45 L 0
def mkdM (M : MS) (L : Nat) (k : Int32) (w : Nat) (kp : Int32) (t : Nat) (mode parts : Int32) (num : Int64) : MS :=
  let M1 := sL (sI (sI (sndM M L k (nI w) kp (nI t)) 40 L mode) 41 L parts) 44 L num
  let M2 := sI M1 9 w (M1.2.1 9 w + 1)
  let M3 := sI M2 43 L (M2.2.1 9 w)
  let M4 := sL M3 45 L (wClk M3 w)
  sI M4 32 (20 * w + t) (M4.2.1 9 w)
def f_marked (M : MS) (k : Int32) (w : Nat) (kp : Int32) (t : Nat) (mode parts : Int32) (num : Int64) : Int32 × MS := if M.1 35 = 400 then (-4, M) else (M.1 35, mkdM M (nx (M.1 35)) k w kp t mode parts num)
def thr (M : MS) (w k t : Int32) : Bool := if isIx w (nx (M.1 6)) = false then false else if isIx k (nx (M.1 2)) = false then false else if isIx t (nx (M.1 11)) = false then false else true
theorem thr_t {M : MS} {w k t : Int32} (h : thr M w k t = true) : isIx w (nx (M.1 6)) = true ∧ isIx k (nx (M.1 2)) = true ∧ isIx t (nx (M.1 11)) = true := by
  unfold thr at h
  split at h
  · cases h
  · split at h
    · cases h
    · split at h
      · cases h
      · simp_all
theorem eq400 {K : Nat} (h : K ≤ 400) (hn : ¬ nI K = 400) : K < 400 := by
  rcases Nat.lt_or_ge K 400 with z | z
  · exact z
  · exact absurd (by rw [show K = 400 by omega]; rfl) hn
theorem ms_send (k : Int32) (w : Int32) (kp : Int32) (t : Int32)  {L : Nat} (hL : M.1 35 = nI L) (hL4 : L < 400) : MSp l G x am mX12_send [.int k, .int w, .int kp, .int t] M (some (.int (nI L))) (sndM M L k w kp t) := by
  refine MSp.intro (lv := [_, _, _, _, _, _]) (by decide) rfl (Nat.le_of_ble_eq_true rfl) (fun h0 h hM hF => ?_)
  refine wp_aload_n (pc := 0) dX12_send_0 rfl rfl ?_
  refine wp_get (pc := 1) dX12_send_1 fl_X12_178_13 hM.1 rfl ?_
  rw [hL]
  refine wp_istore (pc := 4) (lv' := [_, _, _, _, _, _]) dX12_send_4 (Nat.le_of_ble_eq_true rfl) rfl rfl ?_
  refine wp_aload_n (pc := 6) dX12_send_6 rfl rfl ?_
  refine wp_dup (pc := 7) dX12_send_7 rfl ?_
  refine wp_get (pc := 8) dX12_send_8 fl_X12_178_13 hM.1 rfl ?_
  refine wp_iconst (pc := 11) (v := 1) dX12_send_11 (by decide) ?_
  refine wp_iadd (pc := 12) dX12_send_12 ?_
  refine mp_putS (pc := 13) dX12_send_13 fl_X12_178_13 hM hF rfl rfl (by decide) rfl (fun h hM hF => ?_)
  refine wp_aload_n (pc := 16) dX12_send_16 rfl rfl ?_
  refine wp_get (pc := 17) dX12_send_17 fl_X12_100_13 hM.1 rfl ?_
  refine wp_iload (pc := 20) dX12_send_20 rfl ?_
  refine wp_iload_n (pc := 22) dX12_send_22 rfl rfl ?_
  refine mp_iast (pc := 23) (k := 36) (i := L) dX12_send_23 hM hF rfl ⟨rfl, by omega, by decide⟩ (fun h hM hF => ?_)
  refine wp_aload_n (pc := 24) dX12_send_24 rfl rfl ?_
  refine wp_get (pc := 25) dX12_send_25 fl_X12_103_13 hM.1 rfl ?_
  refine wp_iload (pc := 28) dX12_send_28 rfl ?_
  refine wp_iload_n (pc := 30) dX12_send_30 rfl rfl ?_
  refine mp_iast (pc := 31) (k := 37) (i := L) dX12_send_31 hM hF rfl ⟨rfl, by omega, by decide⟩ (fun h hM hF => ?_)
  refine wp_aload_n (pc := 32) dX12_send_32 rfl rfl ?_
  refine wp_get (pc := 33) dX12_send_33 fl_X12_106_13 hM.1 rfl ?_
  refine wp_iload (pc := 36) dX12_send_36 rfl ?_
  refine wp_iload_n (pc := 38) dX12_send_38 rfl rfl ?_
  refine mp_iast (pc := 39) (k := 38) (i := L) dX12_send_39 hM hF rfl ⟨rfl, by omega, by decide⟩ (fun h hM hF => ?_)
  refine wp_aload_n (pc := 40) dX12_send_40 rfl rfl ?_
  refine wp_get (pc := 41) dX12_send_41 fl_X12_109_13 hM.1 rfl ?_
  refine wp_iload (pc := 44) dX12_send_44 rfl ?_
  refine wp_iload (pc := 46) dX12_send_46 rfl ?_
  refine mp_iast (pc := 48) (k := 39) (i := L) dX12_send_48 hM hF rfl ⟨rfl, by omega, by decide⟩ (fun h hM hF => ?_)
  refine wp_aload_n (pc := 49) dX12_send_49 rfl rfl ?_
  refine wp_get (pc := 50) dX12_send_50 fl_X12_112_13 hM.1 rfl ?_
  refine wp_iload (pc := 53) dX12_send_53 rfl ?_
  refine wp_iconst (pc := 55) (v := 0) dX12_send_55 (by decide) ?_
  refine mp_iast (pc := 56) (k := 40) (i := L) dX12_send_56 hM hF rfl ⟨rfl, by omega, by decide⟩ (fun h hM hF => ?_)
  refine wp_aload_n (pc := 57) dX12_send_57 rfl rfl ?_
  refine wp_get (pc := 58) dX12_send_58 fl_X12_115_13 hM.1 rfl ?_
  refine wp_iload (pc := 61) dX12_send_61 rfl ?_
  refine wp_iconst (pc := 63) (v := 0) dX12_send_63 (by decide) ?_
  refine mp_iast (pc := 64) (k := 41) (i := L) dX12_send_64 hM hF rfl ⟨rfl, by omega, by decide⟩ (fun h hM hF => ?_)
  refine wp_aload_n (pc := 65) dX12_send_65 rfl rfl ?_
  refine wp_get (pc := 66) dX12_send_66 fl_X12_118_13 hM.1 rfl ?_
  refine wp_iload (pc := 69) dX12_send_69 rfl ?_
  refine wp_iconst (pc := 71) (v := 0) dX12_send_71 (by decide) ?_
  refine mp_iast (pc := 72) (k := 42) (i := L) dX12_send_72 hM hF rfl ⟨rfl, by omega, by decide⟩ (fun h hM hF => ?_)
  refine wp_aload_n (pc := 73) dX12_send_73 rfl rfl ?_
  refine wp_get (pc := 74) dX12_send_74 fl_X12_121_13 hM.1 rfl ?_
  refine wp_iload (pc := 77) dX12_send_77 rfl ?_
  refine wp_iconst (pc := 79) (v := 0) dX12_send_79 (by decide) ?_
  refine mp_iast (pc := 80) (k := 43) (i := L) dX12_send_80 hM hF rfl ⟨rfl, by omega, by decide⟩ (fun h hM hF => ?_)
  refine wp_aload_n (pc := 81) dX12_send_81 rfl rfl ?_
  refine wp_get (pc := 82) dX12_send_82 fl_X12_124_13 hM.1 rfl ?_
  refine wp_iload (pc := 85) dX12_send_85 rfl ?_
  refine wp_lconst (pc := 87) (v := 0) dX12_send_87 (by decide) ?_
  refine mp_last (pc := 88) (k := 44) (i := L) dX12_send_88 hM hF rfl ⟨rfl, by omega, by decide⟩ (fun h hM hF => ?_)
  refine wp_aload_n (pc := 89) dX12_send_89 rfl rfl ?_
  refine wp_get (pc := 90) dX12_send_90 fl_X12_127_13 hM.1 rfl ?_
  refine wp_iload (pc := 93) dX12_send_93 rfl ?_
  refine wp_lconst (pc := 95) (v := 0) dX12_send_95 (by decide) ?_
  refine mp_last (pc := 96) (k := 45) (i := L) dX12_send_96 hM hF rfl ⟨rfl, by omega, by decide⟩ (fun h hM hF => ?_)
  refine wp_iload (pc := 97) dX12_send_97 rfl ?_
  exact wp_iret (pc := 99) dX12_send_99 rfl ⟨rfl, hM, hF⟩
theorem ms_marked (k : Int32) (kp : Int32) (mode : Int32) (parts : Int32) (num : Int64) (w : Nat) (t : Nat) {L : Nat} (hL : M.1 35 = nI L) (hL4 : L ≤ 400) (hw : w < 20) (ht : t < 20) : MSp l G x am mX12_marked [.int k, .int (nI w), .int kp, .int (nI t), .int mode, .int parts, .long num] M (some (.int (f_marked M k w kp t mode parts num).1)) (f_marked M k w kp t mode parts num).2 := by
  refine MSp.intro (lv := [_, _, _, _, _, _, _, _, _, _]) (by decide) rfl (Nat.le_of_ble_eq_true rfl) (fun h0 h hM hF => ?_)
  have hLx : nx (M.1 35) = L := by rw [hL]; exact nx_nI (by omega)
  refine wp_aload_n (pc := 0) dX12_marked_0 rfl rfl ?_
  refine wp_get (pc := 1) dX12_marked_1 fl_X12_178_13 hM.1 rfl ?_
  refine wp_sipush (pc := 4) (v := 400) dX12_marked_4 (by decide) ?_
  refine wp_icmp_ne (pc := 7) (tgt := 13) dX12_marked_7 (by decide) (fun c7 => ?_) (fun c7 => ?_)
  · have hl4 := eq400 hL4 (by rw [← hL]; exact c7)
    refine wp_aload_n (pc := 13) dX12_marked_13 rfl rfl ?_
    refine wp_iload_n (pc := 14) dX12_marked_14 rfl rfl ?_
    refine wp_iload_n (pc := 15) dX12_marked_15 rfl rfl ?_
    refine wp_iload_n (pc := 16) dX12_marked_16 rfl rfl ?_
    refine wp_iload (pc := 17) dX12_marked_17 rfl ?_
    refine mp_call (pc := 19) [_, _, _, _] dX12_marked_19 rfl cv_X12_217_13 rfl ⟨(Nat.le_of_ble_eq_true rfl), (Nat.le_of_ble_eq_true rfl)⟩ (Nat.le_of_ble_eq_true rfl) ⟨rfl, rfl⟩ (ms_send l G x am _ _ _ _ _ (by exact hL) (by omega)) hM hF (fun h hM hF => ?_)
    refine wp_istore (pc := 22) (lv' := [_, _, _, _, _, _, _, _, _, _]) dX12_marked_22 (Nat.le_of_ble_eq_true rfl) rfl rfl ?_
    refine wp_aload_n (pc := 24) dX12_marked_24 rfl rfl ?_
    refine wp_get (pc := 25) dX12_marked_25 fl_X12_112_13 hM.1 rfl ?_
    refine wp_iload (pc := 28) dX12_marked_28 rfl ?_
    refine wp_iload (pc := 30) dX12_marked_30 rfl ?_
    refine mp_iast (pc := 32) (k := 40) (i := L) dX12_marked_32 hM hF rfl ⟨rfl, by omega, by decide⟩ (fun h hM hF => ?_)
    refine wp_aload_n (pc := 33) dX12_marked_33 rfl rfl ?_
    refine wp_get (pc := 34) dX12_marked_34 fl_X12_115_13 hM.1 rfl ?_
    refine wp_iload (pc := 37) dX12_marked_37 rfl ?_
    refine wp_iload (pc := 39) dX12_marked_39 rfl ?_
    refine mp_iast (pc := 41) (k := 41) (i := L) dX12_marked_41 hM hF rfl ⟨rfl, by omega, by decide⟩ (fun h hM hF => ?_)
    refine wp_aload_n (pc := 42) dX12_marked_42 rfl rfl ?_
    refine wp_get (pc := 43) dX12_marked_43 fl_X12_124_13 hM.1 rfl ?_
    refine wp_iload (pc := 46) dX12_marked_46 rfl ?_
    refine wp_lload (pc := 48) dX12_marked_48 rfl ?_
    refine mp_last (pc := 50) (k := 44) (i := L) dX12_marked_50 hM hF rfl ⟨rfl, by omega, by decide⟩ (fun h hM hF => ?_)
    refine wp_aload_n (pc := 51) dX12_marked_51 rfl rfl ?_
    refine wp_get (pc := 52) dX12_marked_52 fl_X12_26_13 hM.1 rfl ?_
    refine wp_iload_n (pc := 55) dX12_marked_55 rfl rfl ?_
    refine wp_dup2 (pc := 56) dX12_marked_56 rfl rfl ?_
    refine wp_iald (pc := 57) (i := w) dX12_marked_57 (hM.i 9 rfl) ⟨rfl, by omega, by decide⟩ ?_
    refine wp_iconst (pc := 58) (v := 1) dX12_marked_58 (by decide) ?_
    refine wp_iadd (pc := 59) dX12_marked_59 ?_
    refine mp_iast (pc := 60) (k := 9) (i := w) dX12_marked_60 hM hF rfl ⟨rfl, by omega, by decide⟩ (fun h hM hF => ?_)
    refine wp_aload_n (pc := 61) dX12_marked_61 rfl rfl ?_
    refine wp_get (pc := 62) dX12_marked_62 fl_X12_121_13 hM.1 rfl ?_
    refine wp_iload (pc := 65) dX12_marked_65 rfl ?_
    refine wp_aload_n (pc := 67) dX12_marked_67 rfl rfl ?_
    refine wp_get (pc := 68) dX12_marked_68 fl_X12_26_13 hM.1 rfl ?_
    refine wp_iload_n (pc := 71) dX12_marked_71 rfl rfl ?_
    refine wp_iald (pc := 72) (i := w) dX12_marked_72 (hM.i 9 rfl) ⟨rfl, by omega, by decide⟩ ?_
    refine mp_iast (pc := 73) (k := 43) (i := L) dX12_marked_73 hM hF rfl ⟨rfl, by omega, by decide⟩ (fun h hM hF => ?_)
    refine wp_aload_n (pc := 74) dX12_marked_74 rfl rfl ?_
    refine wp_get (pc := 75) dX12_marked_75 fl_X12_127_13 hM.1 rfl ?_
    refine wp_iload (pc := 78) dX12_marked_78 rfl ?_
    refine wp_aload_n (pc := 80) dX12_marked_80 rfl rfl ?_
    refine wp_iload_n (pc := 81) dX12_marked_81 rfl rfl ?_
    refine mp_call (pc := 82) [_] dX12_marked_82 rfl cv_X12_194_13 rfl ⟨(Nat.le_of_ble_eq_true rfl), (Nat.le_of_ble_eq_true rfl)⟩ (Nat.le_of_ble_eq_true rfl) ⟨rfl, rfl⟩ (ms_wClock l G x am _ _ (by omega)) hM hF (fun h hM hF => ?_)
    refine mp_last (pc := 85) (k := 45) (i := L) dX12_marked_85 hM hF rfl ⟨rfl, by omega, by decide⟩ (fun h hM hF => ?_)
    refine wp_aload_n (pc := 86) dX12_marked_86 rfl rfl ?_
    refine wp_get (pc := 87) dX12_marked_87 fl_X12_91_13 hM.1 rfl ?_
    refine wp_bipush (pc := 90) (v := 20) dX12_marked_90 (by decide) ?_
    refine wp_iload_n (pc := 92) dX12_marked_92 rfl rfl ?_
    refine wp_imul (pc := 93) dX12_marked_93 ?_
    refine wp_iload (pc := 94) dX12_marked_94 rfl ?_
    refine wp_iadd (pc := 96) dX12_marked_96 ?_
    refine wp_aload_n (pc := 97) dX12_marked_97 rfl rfl ?_
    refine wp_get (pc := 98) dX12_marked_98 fl_X12_26_13 hM.1 rfl ?_
    refine wp_iload_n (pc := 101) dX12_marked_101 rfl rfl ?_
    refine wp_iald (pc := 102) (i := w) dX12_marked_102 (hM.i 9 rfl) ⟨rfl, by omega, by decide⟩ ?_
    refine mp_iast (pc := 103) (k := 32) (i := ((20 * w) + t)) dX12_marked_103 hM hF rfl ⟨by simp only [nl1, nl5, nl8, nl20, pk_mul, nI_add], by omega, by decide⟩ (fun h hM hF => ?_)
    refine wp_iload (pc := 104) dX12_marked_104 rfl ?_
    exact wp_iret (pc := 106) dX12_marked_106 rfl ⟨by simp only [f_marked, eq_false c7, if_true, if_false, Bool.true_eq_false, Bool.false_eq_true, reduceIte, reduceCtorEq, Bool.not_true, Bool.not_false, true_and, and_true, and_false, false_and, or_true, true_or, or_false, false_or, not_true_eq_false, not_false_eq_true] <;> first | rfl | rw [hL], by simp only [f_marked, hLx, eq_false c7, if_true, if_false, Bool.true_eq_false, Bool.false_eq_true, reduceIte, reduceCtorEq, Bool.not_true, Bool.not_false, true_and, and_true, and_false, false_and, or_true, true_or, or_false, false_or, not_true_eq_false, not_false_eq_true] <;> exact hM, hF⟩
  · skip
    refine wp_bipush (pc := 10) (v := (-4)) dX12_marked_10 (by decide) ?_
    exact wp_iret (pc := 12) dX12_marked_12 rfl ⟨by simp only [f_marked, eq_true c7, if_true, if_false, Bool.true_eq_false, Bool.false_eq_true, reduceIte, reduceCtorEq, Bool.not_true, Bool.not_false, true_and, and_true, and_false, false_and, or_true, true_or, or_false, false_or, not_true_eq_false, not_false_eq_true] <;> first | rfl | rw [hL], by simp only [f_marked, hLx, eq_true c7, if_true, if_false, Bool.true_eq_false, Bool.false_eq_true, reduceIte, reduceCtorEq, Bool.not_true, Bool.not_false, true_and, and_true, and_false, false_and, or_true, true_or, or_false, false_or, not_true_eq_false, not_false_eq_true] <;> exact hM, hF⟩
theorem ms_areThere (w : Int32) (k : Int32) (t : Int32)  {K : Nat} (hK : M.1 2 = nI K) (hK5 : K ≤ 5) {W : Nat} (hW : M.1 6 = nI W) (hW2 : W ≤ 20) {N : Nat} (hT : M.1 11 = nI N) (hT2 : N ≤ 20) : MSp l G x am mX12_areThere [.int w, .int k, .int t] M (some (.int (bi (thr M w k t)))) M := by
  refine MSp.intro (lv := [_, _, _, _]) (by decide) rfl (Nat.le_of_ble_eq_true rfl) (fun h0 h hM hF => ?_)
  have hKx : nx (M.1 2) = K := by rw [hK]; exact nx_nI (by omega)
  have hWx : nx (M.1 6) = W := by rw [hW]; exact nx_nI (by omega)
  have hTx : nx (M.1 11) = N := by rw [hT]; exact nx_nI (by omega)
  refine wp_aload_n (pc := 0) dX12_areThere_0 rfl rfl ?_
  refine wp_iload_n (pc := 1) dX12_areThere_1 rfl rfl ?_
  refine mp_call (pc := 2) [_] dX12_areThere_2 rfl cv_X12_191_13 rfl ⟨(Nat.le_of_ble_eq_true rfl), (Nat.le_of_ble_eq_true rfl)⟩ (Nat.le_of_ble_eq_true rfl) ⟨rfl, rfl⟩ (ms_isWorker l G x am _ _ (by exact hW) hW2) hM hF (fun h hM hF => ?_)
  refine wp_ifB_eq (pc := 5) (tgt := 28) dX12_areThere_5 (by decide) (fun c5 => ?_) (fun c5 => ?_)
  · skip
    refine wp_iconst (pc := 28) (v := 0) dX12_areThere_28 (by decide) ?_
    exact wp_zret (pc := 29) dX12_areThere_29 rfl (by decide) ⟨by simp only [thr, hKx, hWx, hTx, bi, c5, if_true, if_false, Bool.true_eq_false, Bool.false_eq_true, reduceIte, reduceCtorEq, Bool.not_true, Bool.not_false, true_and, and_true, and_false, false_and, or_true, true_or, or_false, false_or, not_true_eq_false, not_false_eq_true], hM, hF⟩
  · skip
    refine wp_aload_n (pc := 8) dX12_areThere_8 rfl rfl ?_
    refine wp_iload_n (pc := 9) dX12_areThere_9 rfl rfl ?_
    refine mp_call (pc := 10) [_] dX12_areThere_10 rfl cv_X12_183_13 rfl ⟨(Nat.le_of_ble_eq_true rfl), (Nat.le_of_ble_eq_true rfl)⟩ (Nat.le_of_ble_eq_true rfl) ⟨rfl, rfl⟩ (ms_isKeeper l G x am _ _ (by exact hK) hK5) hM hF (fun h hM hF => ?_)
    refine wp_ifB_eq (pc := 13) (tgt := 28) dX12_areThere_13 (by decide) (fun c13 => ?_) (fun c13 => ?_)
    · skip
      refine wp_iconst (pc := 28) (v := 0) dX12_areThere_28 (by decide) ?_
      exact wp_zret (pc := 29) dX12_areThere_29 rfl (by decide) ⟨by simp only [thr, hKx, hWx, hTx, bi, c5, c13, if_true, if_false, Bool.true_eq_false, Bool.false_eq_true, reduceIte, reduceCtorEq, Bool.not_true, Bool.not_false, true_and, and_true, and_false, false_and, or_true, true_or, or_false, false_or, not_true_eq_false, not_false_eq_true], hM, hF⟩
    · skip
      refine wp_aload_n (pc := 16) dX12_areThere_16 rfl rfl ?_
      refine wp_iload_n (pc := 17) dX12_areThere_17 rfl rfl ?_
      refine mp_call (pc := 18) [_] dX12_areThere_18 rfl cv_X12_214_13 rfl ⟨(Nat.le_of_ble_eq_true rfl), (Nat.le_of_ble_eq_true rfl)⟩ (Nat.le_of_ble_eq_true rfl) ⟨rfl, rfl⟩ (ms_isThing l G x am _ _ (by exact hT) hT2) hM hF (fun h hM hF => ?_)
      refine wp_ifB_eq (pc := 21) (tgt := 28) dX12_areThere_21 (by decide) (fun c21 => ?_) (fun c21 => ?_)
      · skip
        refine wp_iconst (pc := 28) (v := 0) dX12_areThere_28 (by decide) ?_
        exact wp_zret (pc := 29) dX12_areThere_29 rfl (by decide) ⟨by simp only [thr, hKx, hWx, hTx, bi, c5, c13, c21, if_true, if_false, Bool.true_eq_false, Bool.false_eq_true, reduceIte, reduceCtorEq, Bool.not_true, Bool.not_false, true_and, and_true, and_false, false_and, or_true, true_or, or_false, false_or, not_true_eq_false, not_false_eq_true], hM, hF⟩
      · skip
        refine wp_iconst (pc := 24) (v := 1) dX12_areThere_24 (by decide) ?_
        refine wp_goto (pc := 25) (tgt := 29) dX12_areThere_25 (by decide) ?_
        exact wp_zret (pc := 29) dX12_areThere_29 rfl (by decide) ⟨by simp only [thr, hKx, hWx, hTx, bi, c5, c13, c21, if_true, if_false, Bool.true_eq_false, Bool.false_eq_true, reduceIte, reduceCtorEq, Bool.not_true, Bool.not_false, true_and, and_true, and_false, false_and, or_true, true_or, or_false, false_or, not_true_eq_false, not_false_eq_true], hM, hF⟩
def askOk (M : MS) (t : Nat) (mode parts : Int32) : Bool := if (if mode = 0 then true else if mode = 1 then (if M.2.1 12 t = 1 then true else if M.2.1 12 t = 3 then true else false) else false) = false then false else if M.2.1 12 t = 2 then fin parts 1 (M.2.1 14 t) else decide (parts = 0)
def f_ask (M : MS) (w k t mode parts : Int32) : Int32 × MS := if thr M w k t = false then (-2, M) else if askOk M (nx t) mode parts = false then (-2, M) else if M.2.1 10 (nx w) = 0 then (-3, M) else f_marked M 0 (nx w) k (nx t) mode parts 0
def f_renew (M : MS) (w k t : Int32) : Int32 × MS := if thr M w k t = false then (-2, M) else if M.2.1 10 (nx w) = 0 then (-3, M) else if M.2.1 29 (20 * nx w + nx t) = 0 then (-3, M) else f_marked M 1 (nx w) k (nx t) (M.2.1 30 (20 * nx w + nx t)) (M.2.1 31 (20 * nx w + nx t)) (M.2.2 33 (20 * nx w + nx t))
def endM (M : MS) (L w : Nat) (kp : Int32) (t : Nat) : MS := sI (sI (sL (sI (sI (sndM M L 2 (nI w) kp (nI t)) 40 L (M.2.1 30 (20 * w + t))) 41 L (M.2.1 31 (20 * w + t))) 44 L (M.2.2 33 (20 * w + t))) 29 (20 * w + t) 0) 32 (20 * w + t) 0
def f_end (M : MS) (w k t : Int32) : Int32 × MS := if thr M w k t = false then (-2, M) else if M.2.1 10 (nx w) = 0 then (-3, M) else if M.2.1 29 (20 * nx w + nx t) = 0 then (-3, M) else if M.1 35 = 400 then (-4, M) else (M.1 35, endM M (nx (M.1 35)) (nx w) k (nx t))
def f_rise (M : MS) (w k t : Int32) : Int32 × MS := if thr M w k t = false then (-2, M) else if M.2.1 12 (nx t) = 3 then (if M.2.1 10 (nx w) = 0 then (-3, M) else if M.2.1 29 (20 * nx w + nx t) = 0 then (-3, M) else f_marked M 3 (nx w) k (nx t) 0 0 (M.2.2 33 (20 * nx w + nx t))) else (-2, M)
def f_lose (M : MS) (v : Int32) : Int32 × MS := if isIx v (nx (M.1 35)) = false then (-2, M) else if M.2.1 42 (nx v) = 0 then (1, sI M 42 (nx v) 2) else (-3, M)
def twcM (M : MS) (L j : Nat) : MS :=
  let S := sndM M L (M.2.1 36 j) (M.2.1 37 j) (M.2.1 38 j) (M.2.1 39 j)
  sL (sL (sI (sI (sI S 40 L (S.2.1 40 j)) 41 L (S.2.1 41 j)) 43 L (S.2.1 43 j)) 44 L (S.2.2 44 j)) 45 L (S.2.2 45 j)
def f_twice (M : MS) (v : Int32) : Int32 × MS := if isIx v (nx (M.1 35)) = false then (-2, M) else if M.1 35 = 400 then (-4, M) else (M.1 35, twcM M (nx (M.1 35)) (nx v))
def f_letter (M : MS) (v what : Int32) : Int32 := if isIx v (nx (M.1 35)) = false then -2 else if fin what 0 6 = false then -2 else if what = 0 then M.2.1 36 (nx v) else if what = 1 then M.2.1 37 (nx v) else if what = 2 then M.2.1 38 (nx v) else if what = 3 then M.2.1 39 (nx v) else if what = 4 then M.2.1 40 (nx v) else if what = 5 then M.2.1 41 (nx v) else M.2.1 42 (nx v)
def f_wrote (M : MS) (v what : Int32) : Int64 := if isIx v (nx (M.1 35)) = false then -4611686018427387904 else if fin what 0 2 = false then -4611686018427387904 else if what = 0 then M.2.2 44 (nx v) else if what = 1 then M.2.2 45 (nx v) else (M.2.1 43 (nx v)).toInt64
theorem ms_ask (w : Int32) (k : Int32) (t : Int32) (mode : Int32) (parts : Int32)  {K : Nat} (hK : M.1 2 = nI K) (hK5 : K ≤ 5) {W : Nat} (hW : M.1 6 = nI W) (hW2 : W ≤ 20) {N : Nat} (hT : M.1 11 = nI N) (hT2 : N ≤ 20) {L : Nat} (hL : M.1 35 = nI L) (hL4 : L ≤ 400) : MSp l G x am mX12_ask [.int w, .int k, .int t, .int mode, .int parts] M (some (.int (f_ask M w k t mode parts).1)) (f_ask M w k t mode parts).2 := by
  refine MSp.intro (lv := [_, _, _, _, _, _, _, _]) (by decide) rfl (Nat.le_of_ble_eq_true rfl) (fun h0 h hM hF => ?_)
  have hKx : nx (M.1 2) = K := by rw [hK]; exact nx_nI (by omega)
  have hWx : nx (M.1 6) = W := by rw [hW]; exact nx_nI (by omega)
  have hTx : nx (M.1 11) = N := by rw [hT]; exact nx_nI (by omega)
  have hLx : nx (M.1 35) = L := by rw [hL]; exact nx_nI (by omega)
  refine wp_aload_n (pc := 0) dX12_ask_0 rfl rfl ?_
  refine wp_iload_n (pc := 1) dX12_ask_1 rfl rfl ?_
  refine wp_iload_n (pc := 2) dX12_ask_2 rfl rfl ?_
  refine wp_iload_n (pc := 3) dX12_ask_3 rfl rfl ?_
  refine mp_call (pc := 4) [_, _, _] dX12_ask_4 rfl cv_X12_221_13 rfl ⟨(Nat.le_of_ble_eq_true rfl), (Nat.le_of_ble_eq_true rfl)⟩ (Nat.le_of_ble_eq_true rfl) ⟨rfl, rfl⟩ (ms_areThere l G x am _ _ _ _ (by exact hK) hK5 (by exact hW) hW2 (by exact hT) hT2) hM hF (fun h hM hF => ?_)
  refine wp_ifB_ne (pc := 7) (tgt := 13) dX12_ask_7 (by decide) (fun c7 => ?_) (fun c7 => ?_)
  · obtain ⟨g1, g2, g3⟩ := thr_t c7
    rw [hWx] at g1; rw [hKx] at g2; rw [hTx] at g3
    obtain ⟨wa, hwa, rfl⟩ := isIx_t g1 (by omega)
    obtain ⟨kb, hkb, rfl⟩ := isIx_t g2 (by omega)
    obtain ⟨tc, htc, rfl⟩ := isIx_t g3 (by omega)
    have e1 : nx (nI wa) = wa := nx_nI (by omega)
    have e2 : nx (nI kb) = kb := nx_nI (by omega)
    have e3 : nx (nI tc) = tc := nx_nI (by omega)
    refine wp_aload_n (pc := 13) dX12_ask_13 rfl rfl ?_
    refine wp_get (pc := 14) dX12_ask_14 fl_X12_32_13 hM.1 rfl ?_
    refine wp_iload_n (pc := 17) dX12_ask_17 rfl rfl ?_
    refine wp_iald (pc := 18) (i := tc) dX12_ask_18 (hM.i 12 rfl) ⟨rfl, by omega, by decide⟩ ?_
    refine wp_iconst (pc := 19) (v := 1) dX12_ask_19 (by decide) ?_
    refine wp_icmp_eq (pc := 20) (tgt := 33) dX12_ask_20 (by decide) (fun c20 => ?_) (fun c20 => ?_)
    · skip
      refine wp_iconst (pc := 33) (v := 1) dX12_ask_33 (by decide) ?_
      refine wp_goto (pc := 34) (tgt := 38) dX12_ask_34 (by decide) ?_
      refine wp_istore (pc := 38) (lv' := [_, _, _, _, _, _, _, _]) dX12_ask_38 (Nat.le_of_ble_eq_true rfl) rfl rfl ?_
      refine wp_iload (pc := 40) dX12_ask_40 rfl ?_
      refine wp_if_eq (pc := 42) (tgt := 56) dX12_ask_42 (by decide) (fun c42 => ?_) (fun c42 => ?_)
      · skip
        refine wp_aload_n (pc := 56) dX12_ask_56 rfl rfl ?_
        refine wp_get (pc := 57) dX12_ask_57 fl_X12_32_13 hM.1 rfl ?_
        refine wp_iload_n (pc := 60) dX12_ask_60 rfl rfl ?_
        refine wp_iald (pc := 61) (i := tc) dX12_ask_61 (hM.i 12 rfl) ⟨rfl, by omega, by decide⟩ ?_
        refine wp_iconst (pc := 62) (v := 2) dX12_ask_62 (by decide) ?_
        refine wp_icmp_ne (pc := 63) (tgt := 84) dX12_ask_63 (by decide) (fun c63 => ?_) (fun c63 => ?_)
        · skip
          refine wp_iload (pc := 84) dX12_ask_84 rfl ?_
          refine wp_if_ne (pc := 86) (tgt := 93) dX12_ask_86 (by decide) (fun c86 => ?_) (fun c86 => ?_)
          · skip
            refine wp_iconst (pc := 93) (v := 0) dX12_ask_93 (by decide) ?_
            refine wp_istore (pc := 94) (lv' := [_, _, _, _, _, _, _, _]) dX12_ask_94 (Nat.le_of_ble_eq_true rfl) rfl rfl ?_
            refine wp_iload (pc := 96) dX12_ask_96 rfl ?_
            refine wp_if_ne (pc := 98) (tgt := 104) dX12_ask_98 (by decide) (fun z => absurd (by decide) z) (fun _ => ?_)
            refine wp_bipush (pc := 101) (v := (-2)) dX12_ask_101 (by decide) ?_
            exact wp_iret (pc := 103) dX12_ask_103 rfl ⟨by simp only [f_ask, askOk, decide_true, decide_false, e1, e2, e3, c7, eq_true c20, eq_true c42, eq_false c63, eq_false c86, if_true, if_false, Bool.true_eq_false, Bool.false_eq_true, reduceIte, reduceCtorEq, Bool.not_true, Bool.not_false, true_and, and_true, and_false, false_and, or_true, true_or, or_false, false_or, not_true_eq_false, not_false_eq_true] <;> rfl, by simp only [f_ask, askOk, decide_true, decide_false, e1, e2, e3, c7, eq_true c20, eq_true c42, eq_false c63, eq_false c86, if_true, if_false, Bool.true_eq_false, Bool.false_eq_true, reduceIte, reduceCtorEq, Bool.not_true, Bool.not_false, true_and, and_true, and_false, false_and, or_true, true_or, or_false, false_or, not_true_eq_false, not_false_eq_true] <;> exact hM, hF⟩
          · skip
            refine wp_iconst (pc := 89) (v := 1) dX12_ask_89 (by decide) ?_
            refine wp_goto (pc := 90) (tgt := 94) dX12_ask_90 (by decide) ?_
            refine wp_istore (pc := 94) (lv' := [_, _, _, _, _, _, _, _]) dX12_ask_94 (Nat.le_of_ble_eq_true rfl) rfl rfl ?_
            refine wp_iload (pc := 96) dX12_ask_96 rfl ?_
            refine wp_if_ne (pc := 98) (tgt := 104) dX12_ask_98 (by decide) (fun _ => ?_) (fun z => absurd z (by decide))
            refine wp_aload_n (pc := 104) dX12_ask_104 rfl rfl ?_
            refine wp_get (pc := 105) dX12_ask_105 fl_X12_29_13 hM.1 rfl ?_
            refine wp_iload_n (pc := 108) dX12_ask_108 rfl rfl ?_
            refine wp_zald (pc := 109) (i := wa) dX12_ask_109 (hM.z 10 rfl) ⟨rfl, by omega, by decide⟩ ?_
            refine wp_if_ne (pc := 110) (tgt := 116) dX12_ask_110 (by decide) (fun c110 => ?_) (fun c110 => ?_)
            · skip
              refine wp_aload_n (pc := 116) dX12_ask_116 rfl rfl ?_
              refine wp_iconst (pc := 117) (v := 0) dX12_ask_117 (by decide) ?_
              refine wp_iload_n (pc := 118) dX12_ask_118 rfl rfl ?_
              refine wp_iload_n (pc := 119) dX12_ask_119 rfl rfl ?_
              refine wp_iload_n (pc := 120) dX12_ask_120 rfl rfl ?_
              refine wp_iload (pc := 121) dX12_ask_121 rfl ?_
              refine wp_iload (pc := 123) dX12_ask_123 rfl ?_
              refine wp_lconst (pc := 125) (v := 0) dX12_ask_125 (by decide) ?_
              refine mp_call (pc := 126) [_, _, _, _, _, _, _] dX12_ask_126 rfl cv_X12_224_13 rfl ⟨(Nat.le_of_ble_eq_true rfl), (Nat.le_of_ble_eq_true rfl)⟩ (Nat.le_of_ble_eq_true rfl) ⟨rfl, rfl⟩ (ms_marked l G x am _ _ _ _ _ _ _ _ (by exact hL) hL4 (by omega) (by omega)) hM hF (fun h hM hF => ?_)
              exact wp_iret (pc := 129) dX12_ask_129 rfl ⟨by simp only [f_ask, askOk, decide_true, decide_false, e1, e2, e3, c7, eq_true c20, eq_true c42, eq_false c63, eq_true c86, eq_false c110, if_true, if_false, Bool.true_eq_false, Bool.false_eq_true, reduceIte, reduceCtorEq, Bool.not_true, Bool.not_false, true_and, and_true, and_false, false_and, or_true, true_or, or_false, false_or, not_true_eq_false, not_false_eq_true] <;> rfl, by simp only [f_ask, askOk, decide_true, decide_false, e1, e2, e3, c7, eq_true c20, eq_true c42, eq_false c63, eq_true c86, eq_false c110, if_true, if_false, Bool.true_eq_false, Bool.false_eq_true, reduceIte, reduceCtorEq, Bool.not_true, Bool.not_false, true_and, and_true, and_false, false_and, or_true, true_or, or_false, false_or, not_true_eq_false, not_false_eq_true] <;> exact hM, hF⟩
            · skip
              refine wp_bipush (pc := 113) (v := (-3)) dX12_ask_113 (by decide) ?_
              exact wp_iret (pc := 115) dX12_ask_115 rfl ⟨by simp only [f_ask, askOk, decide_true, decide_false, e1, e2, e3, c7, eq_true c20, eq_true c42, eq_false c63, eq_true c86, eq_true c110, if_true, if_false, Bool.true_eq_false, Bool.false_eq_true, reduceIte, reduceCtorEq, Bool.not_true, Bool.not_false, true_and, and_true, and_false, false_and, or_true, true_or, or_false, false_or, not_true_eq_false, not_false_eq_true] <;> rfl, by simp only [f_ask, askOk, decide_true, decide_false, e1, e2, e3, c7, eq_true c20, eq_true c42, eq_false c63, eq_true c86, eq_true c110, if_true, if_false, Bool.true_eq_false, Bool.false_eq_true, reduceIte, reduceCtorEq, Bool.not_true, Bool.not_false, true_and, and_true, and_false, false_and, or_true, true_or, or_false, false_or, not_true_eq_false, not_false_eq_true] <;> exact hM, hF⟩
        · skip
          refine wp_iload (pc := 66) dX12_ask_66 rfl ?_
          refine wp_iconst (pc := 68) (v := 1) dX12_ask_68 (by decide) ?_
          refine wp_aload_n (pc := 69) dX12_ask_69 rfl rfl ?_
          refine wp_get (pc := 70) dX12_ask_70 fl_X12_38_13 hM.1 rfl ?_
          refine wp_iload_n (pc := 73) dX12_ask_73 rfl rfl ?_
          refine wp_iald (pc := 74) (i := tc) dX12_ask_74 (hM.i 14 rfl) ⟨rfl, by omega, by decide⟩ ?_
          refine mp_callS (pc := 75) [_, _, _] dX12_ask_75 rfl cs_X12_153 rfl ⟨(Nat.le_of_ble_eq_true rfl), (Nat.le_of_ble_eq_true rfl)⟩ (Nat.le_of_ble_eq_true rfl) ⟨rfl, rfl⟩ (ms_in l G _ _ _ h) ?_
          refine wp_ifB_eq (pc := 78) (tgt := 93) dX12_ask_78 (by decide) (fun c78 => ?_) (fun c78 => ?_)
          · skip
            refine wp_iconst (pc := 93) (v := 0) dX12_ask_93 (by decide) ?_
            refine wp_istore (pc := 94) (lv' := [_, _, _, _, _, _, _, _]) dX12_ask_94 (Nat.le_of_ble_eq_true rfl) rfl rfl ?_
            refine wp_iload (pc := 96) dX12_ask_96 rfl ?_
            refine wp_if_ne (pc := 98) (tgt := 104) dX12_ask_98 (by decide) (fun z => absurd (by decide) z) (fun _ => ?_)
            refine wp_bipush (pc := 101) (v := (-2)) dX12_ask_101 (by decide) ?_
            exact wp_iret (pc := 103) dX12_ask_103 rfl ⟨by simp only [f_ask, askOk, decide_true, decide_false, e1, e2, e3, c7, eq_true c20, eq_true c42, eq_true c63, c78, if_true, if_false, Bool.true_eq_false, Bool.false_eq_true, reduceIte, reduceCtorEq, Bool.not_true, Bool.not_false, true_and, and_true, and_false, false_and, or_true, true_or, or_false, false_or, not_true_eq_false, not_false_eq_true] <;> rfl, by simp only [f_ask, askOk, decide_true, decide_false, e1, e2, e3, c7, eq_true c20, eq_true c42, eq_true c63, c78, if_true, if_false, Bool.true_eq_false, Bool.false_eq_true, reduceIte, reduceCtorEq, Bool.not_true, Bool.not_false, true_and, and_true, and_false, false_and, or_true, true_or, or_false, false_or, not_true_eq_false, not_false_eq_true] <;> exact hM, hF⟩
          · skip
            refine wp_goto (pc := 81) (tgt := 89) dX12_ask_81 (by decide) ?_
            refine wp_iconst (pc := 89) (v := 1) dX12_ask_89 (by decide) ?_
            refine wp_goto (pc := 90) (tgt := 94) dX12_ask_90 (by decide) ?_
            refine wp_istore (pc := 94) (lv' := [_, _, _, _, _, _, _, _]) dX12_ask_94 (Nat.le_of_ble_eq_true rfl) rfl rfl ?_
            refine wp_iload (pc := 96) dX12_ask_96 rfl ?_
            refine wp_if_ne (pc := 98) (tgt := 104) dX12_ask_98 (by decide) (fun _ => ?_) (fun z => absurd z (by decide))
            refine wp_aload_n (pc := 104) dX12_ask_104 rfl rfl ?_
            refine wp_get (pc := 105) dX12_ask_105 fl_X12_29_13 hM.1 rfl ?_
            refine wp_iload_n (pc := 108) dX12_ask_108 rfl rfl ?_
            refine wp_zald (pc := 109) (i := wa) dX12_ask_109 (hM.z 10 rfl) ⟨rfl, by omega, by decide⟩ ?_
            refine wp_if_ne (pc := 110) (tgt := 116) dX12_ask_110 (by decide) (fun c110 => ?_) (fun c110 => ?_)
            · skip
              refine wp_aload_n (pc := 116) dX12_ask_116 rfl rfl ?_
              refine wp_iconst (pc := 117) (v := 0) dX12_ask_117 (by decide) ?_
              refine wp_iload_n (pc := 118) dX12_ask_118 rfl rfl ?_
              refine wp_iload_n (pc := 119) dX12_ask_119 rfl rfl ?_
              refine wp_iload_n (pc := 120) dX12_ask_120 rfl rfl ?_
              refine wp_iload (pc := 121) dX12_ask_121 rfl ?_
              refine wp_iload (pc := 123) dX12_ask_123 rfl ?_
              refine wp_lconst (pc := 125) (v := 0) dX12_ask_125 (by decide) ?_
              refine mp_call (pc := 126) [_, _, _, _, _, _, _] dX12_ask_126 rfl cv_X12_224_13 rfl ⟨(Nat.le_of_ble_eq_true rfl), (Nat.le_of_ble_eq_true rfl)⟩ (Nat.le_of_ble_eq_true rfl) ⟨rfl, rfl⟩ (ms_marked l G x am _ _ _ _ _ _ _ _ (by exact hL) hL4 (by omega) (by omega)) hM hF (fun h hM hF => ?_)
              exact wp_iret (pc := 129) dX12_ask_129 rfl ⟨by simp only [f_ask, askOk, decide_true, decide_false, e1, e2, e3, c7, eq_true c20, eq_true c42, eq_true c63, c78, eq_false c110, if_true, if_false, Bool.true_eq_false, Bool.false_eq_true, reduceIte, reduceCtorEq, Bool.not_true, Bool.not_false, true_and, and_true, and_false, false_and, or_true, true_or, or_false, false_or, not_true_eq_false, not_false_eq_true] <;> rfl, by simp only [f_ask, askOk, decide_true, decide_false, e1, e2, e3, c7, eq_true c20, eq_true c42, eq_true c63, c78, eq_false c110, if_true, if_false, Bool.true_eq_false, Bool.false_eq_true, reduceIte, reduceCtorEq, Bool.not_true, Bool.not_false, true_and, and_true, and_false, false_and, or_true, true_or, or_false, false_or, not_true_eq_false, not_false_eq_true] <;> exact hM, hF⟩
            · skip
              refine wp_bipush (pc := 113) (v := (-3)) dX12_ask_113 (by decide) ?_
              exact wp_iret (pc := 115) dX12_ask_115 rfl ⟨by simp only [f_ask, askOk, decide_true, decide_false, e1, e2, e3, c7, eq_true c20, eq_true c42, eq_true c63, c78, eq_true c110, if_true, if_false, Bool.true_eq_false, Bool.false_eq_true, reduceIte, reduceCtorEq, Bool.not_true, Bool.not_false, true_and, and_true, and_false, false_and, or_true, true_or, or_false, false_or, not_true_eq_false, not_false_eq_true] <;> rfl, by simp only [f_ask, askOk, decide_true, decide_false, e1, e2, e3, c7, eq_true c20, eq_true c42, eq_true c63, c78, eq_true c110, if_true, if_false, Bool.true_eq_false, Bool.false_eq_true, reduceIte, reduceCtorEq, Bool.not_true, Bool.not_false, true_and, and_true, and_false, false_and, or_true, true_or, or_false, false_or, not_true_eq_false, not_false_eq_true] <;> exact hM, hF⟩
      · skip
        refine wp_iload (pc := 45) dX12_ask_45 rfl ?_
        refine wp_iconst (pc := 47) (v := 1) dX12_ask_47 (by decide) ?_
        refine wp_icmp_ne (pc := 48) (tgt := 93) dX12_ask_48 (by decide) (fun c48 => ?_) (fun c48 => ?_)
        · skip
          refine wp_iconst (pc := 93) (v := 0) dX12_ask_93 (by decide) ?_
          refine wp_istore (pc := 94) (lv' := [_, _, _, _, _, _, _, _]) dX12_ask_94 (Nat.le_of_ble_eq_true rfl) rfl rfl ?_
          refine wp_iload (pc := 96) dX12_ask_96 rfl ?_
          refine wp_if_ne (pc := 98) (tgt := 104) dX12_ask_98 (by decide) (fun z => absurd (by decide) z) (fun _ => ?_)
          refine wp_bipush (pc := 101) (v := (-2)) dX12_ask_101 (by decide) ?_
          exact wp_iret (pc := 103) dX12_ask_103 rfl ⟨by simp only [f_ask, askOk, decide_true, decide_false, e1, e2, e3, c7, eq_true c20, eq_false c42, eq_false c48, if_true, if_false, Bool.true_eq_false, Bool.false_eq_true, reduceIte, reduceCtorEq, Bool.not_true, Bool.not_false, true_and, and_true, and_false, false_and, or_true, true_or, or_false, false_or, not_true_eq_false, not_false_eq_true] <;> rfl, by simp only [f_ask, askOk, decide_true, decide_false, e1, e2, e3, c7, eq_true c20, eq_false c42, eq_false c48, if_true, if_false, Bool.true_eq_false, Bool.false_eq_true, reduceIte, reduceCtorEq, Bool.not_true, Bool.not_false, true_and, and_true, and_false, false_and, or_true, true_or, or_false, false_or, not_true_eq_false, not_false_eq_true] <;> exact hM, hF⟩
        · skip
          refine wp_iload (pc := 51) dX12_ask_51 rfl ?_
          refine wp_if_eq (pc := 53) (tgt := 93) dX12_ask_53 (by decide) (fun z => absurd z (by decide)) (fun _ => ?_)
          refine wp_aload_n (pc := 56) dX12_ask_56 rfl rfl ?_
          refine wp_get (pc := 57) dX12_ask_57 fl_X12_32_13 hM.1 rfl ?_
          refine wp_iload_n (pc := 60) dX12_ask_60 rfl rfl ?_
          refine wp_iald (pc := 61) (i := tc) dX12_ask_61 (hM.i 12 rfl) ⟨rfl, by omega, by decide⟩ ?_
          refine wp_iconst (pc := 62) (v := 2) dX12_ask_62 (by decide) ?_
          refine wp_icmp_ne (pc := 63) (tgt := 84) dX12_ask_63 (by decide) (fun c63 => ?_) (fun c63 => ?_)
          · skip
            refine wp_iload (pc := 84) dX12_ask_84 rfl ?_
            refine wp_if_ne (pc := 86) (tgt := 93) dX12_ask_86 (by decide) (fun c86 => ?_) (fun c86 => ?_)
            · skip
              refine wp_iconst (pc := 93) (v := 0) dX12_ask_93 (by decide) ?_
              refine wp_istore (pc := 94) (lv' := [_, _, _, _, _, _, _, _]) dX12_ask_94 (Nat.le_of_ble_eq_true rfl) rfl rfl ?_
              refine wp_iload (pc := 96) dX12_ask_96 rfl ?_
              refine wp_if_ne (pc := 98) (tgt := 104) dX12_ask_98 (by decide) (fun z => absurd (by decide) z) (fun _ => ?_)
              refine wp_bipush (pc := 101) (v := (-2)) dX12_ask_101 (by decide) ?_
              exact wp_iret (pc := 103) dX12_ask_103 rfl ⟨by simp only [f_ask, askOk, decide_true, decide_false, e1, e2, e3, c7, eq_true c20, eq_false c42, eq_true c48, eq_false c63, eq_false c86, if_true, if_false, Bool.true_eq_false, Bool.false_eq_true, reduceIte, reduceCtorEq, Bool.not_true, Bool.not_false, true_and, and_true, and_false, false_and, or_true, true_or, or_false, false_or, not_true_eq_false, not_false_eq_true] <;> rfl, by simp only [f_ask, askOk, decide_true, decide_false, e1, e2, e3, c7, eq_true c20, eq_false c42, eq_true c48, eq_false c63, eq_false c86, if_true, if_false, Bool.true_eq_false, Bool.false_eq_true, reduceIte, reduceCtorEq, Bool.not_true, Bool.not_false, true_and, and_true, and_false, false_and, or_true, true_or, or_false, false_or, not_true_eq_false, not_false_eq_true] <;> exact hM, hF⟩
            · skip
              refine wp_iconst (pc := 89) (v := 1) dX12_ask_89 (by decide) ?_
              refine wp_goto (pc := 90) (tgt := 94) dX12_ask_90 (by decide) ?_
              refine wp_istore (pc := 94) (lv' := [_, _, _, _, _, _, _, _]) dX12_ask_94 (Nat.le_of_ble_eq_true rfl) rfl rfl ?_
              refine wp_iload (pc := 96) dX12_ask_96 rfl ?_
              refine wp_if_ne (pc := 98) (tgt := 104) dX12_ask_98 (by decide) (fun _ => ?_) (fun z => absurd z (by decide))
              refine wp_aload_n (pc := 104) dX12_ask_104 rfl rfl ?_
              refine wp_get (pc := 105) dX12_ask_105 fl_X12_29_13 hM.1 rfl ?_
              refine wp_iload_n (pc := 108) dX12_ask_108 rfl rfl ?_
              refine wp_zald (pc := 109) (i := wa) dX12_ask_109 (hM.z 10 rfl) ⟨rfl, by omega, by decide⟩ ?_
              refine wp_if_ne (pc := 110) (tgt := 116) dX12_ask_110 (by decide) (fun c110 => ?_) (fun c110 => ?_)
              · skip
                refine wp_aload_n (pc := 116) dX12_ask_116 rfl rfl ?_
                refine wp_iconst (pc := 117) (v := 0) dX12_ask_117 (by decide) ?_
                refine wp_iload_n (pc := 118) dX12_ask_118 rfl rfl ?_
                refine wp_iload_n (pc := 119) dX12_ask_119 rfl rfl ?_
                refine wp_iload_n (pc := 120) dX12_ask_120 rfl rfl ?_
                refine wp_iload (pc := 121) dX12_ask_121 rfl ?_
                refine wp_iload (pc := 123) dX12_ask_123 rfl ?_
                refine wp_lconst (pc := 125) (v := 0) dX12_ask_125 (by decide) ?_
                refine mp_call (pc := 126) [_, _, _, _, _, _, _] dX12_ask_126 rfl cv_X12_224_13 rfl ⟨(Nat.le_of_ble_eq_true rfl), (Nat.le_of_ble_eq_true rfl)⟩ (Nat.le_of_ble_eq_true rfl) ⟨rfl, rfl⟩ (ms_marked l G x am _ _ _ _ _ _ _ _ (by exact hL) hL4 (by omega) (by omega)) hM hF (fun h hM hF => ?_)
                exact wp_iret (pc := 129) dX12_ask_129 rfl ⟨by simp only [f_ask, askOk, decide_true, decide_false, e1, e2, e3, c7, eq_true c20, eq_false c42, eq_true c48, eq_false c63, eq_true c86, eq_false c110, if_true, if_false, Bool.true_eq_false, Bool.false_eq_true, reduceIte, reduceCtorEq, Bool.not_true, Bool.not_false, true_and, and_true, and_false, false_and, or_true, true_or, or_false, false_or, not_true_eq_false, not_false_eq_true] <;> rfl, by simp only [f_ask, askOk, decide_true, decide_false, e1, e2, e3, c7, eq_true c20, eq_false c42, eq_true c48, eq_false c63, eq_true c86, eq_false c110, if_true, if_false, Bool.true_eq_false, Bool.false_eq_true, reduceIte, reduceCtorEq, Bool.not_true, Bool.not_false, true_and, and_true, and_false, false_and, or_true, true_or, or_false, false_or, not_true_eq_false, not_false_eq_true] <;> exact hM, hF⟩
              · skip
                refine wp_bipush (pc := 113) (v := (-3)) dX12_ask_113 (by decide) ?_
                exact wp_iret (pc := 115) dX12_ask_115 rfl ⟨by simp only [f_ask, askOk, decide_true, decide_false, e1, e2, e3, c7, eq_true c20, eq_false c42, eq_true c48, eq_false c63, eq_true c86, eq_true c110, if_true, if_false, Bool.true_eq_false, Bool.false_eq_true, reduceIte, reduceCtorEq, Bool.not_true, Bool.not_false, true_and, and_true, and_false, false_and, or_true, true_or, or_false, false_or, not_true_eq_false, not_false_eq_true] <;> rfl, by simp only [f_ask, askOk, decide_true, decide_false, e1, e2, e3, c7, eq_true c20, eq_false c42, eq_true c48, eq_false c63, eq_true c86, eq_true c110, if_true, if_false, Bool.true_eq_false, Bool.false_eq_true, reduceIte, reduceCtorEq, Bool.not_true, Bool.not_false, true_and, and_true, and_false, false_and, or_true, true_or, or_false, false_or, not_true_eq_false, not_false_eq_true] <;> exact hM, hF⟩
          · skip
            refine wp_iload (pc := 66) dX12_ask_66 rfl ?_
            refine wp_iconst (pc := 68) (v := 1) dX12_ask_68 (by decide) ?_
            refine wp_aload_n (pc := 69) dX12_ask_69 rfl rfl ?_
            refine wp_get (pc := 70) dX12_ask_70 fl_X12_38_13 hM.1 rfl ?_
            refine wp_iload_n (pc := 73) dX12_ask_73 rfl rfl ?_
            refine wp_iald (pc := 74) (i := tc) dX12_ask_74 (hM.i 14 rfl) ⟨rfl, by omega, by decide⟩ ?_
            refine mp_callS (pc := 75) [_, _, _] dX12_ask_75 rfl cs_X12_153 rfl ⟨(Nat.le_of_ble_eq_true rfl), (Nat.le_of_ble_eq_true rfl)⟩ (Nat.le_of_ble_eq_true rfl) ⟨rfl, rfl⟩ (ms_in l G _ _ _ h) ?_
            refine wp_ifB_eq (pc := 78) (tgt := 93) dX12_ask_78 (by decide) (fun c78 => ?_) (fun c78 => ?_)
            · skip
              refine wp_iconst (pc := 93) (v := 0) dX12_ask_93 (by decide) ?_
              refine wp_istore (pc := 94) (lv' := [_, _, _, _, _, _, _, _]) dX12_ask_94 (Nat.le_of_ble_eq_true rfl) rfl rfl ?_
              refine wp_iload (pc := 96) dX12_ask_96 rfl ?_
              refine wp_if_ne (pc := 98) (tgt := 104) dX12_ask_98 (by decide) (fun z => absurd (by decide) z) (fun _ => ?_)
              refine wp_bipush (pc := 101) (v := (-2)) dX12_ask_101 (by decide) ?_
              exact wp_iret (pc := 103) dX12_ask_103 rfl ⟨by simp only [f_ask, askOk, decide_true, decide_false, e1, e2, e3, c7, eq_true c20, eq_false c42, eq_true c48, eq_true c63, c78, if_true, if_false, Bool.true_eq_false, Bool.false_eq_true, reduceIte, reduceCtorEq, Bool.not_true, Bool.not_false, true_and, and_true, and_false, false_and, or_true, true_or, or_false, false_or, not_true_eq_false, not_false_eq_true] <;> rfl, by simp only [f_ask, askOk, decide_true, decide_false, e1, e2, e3, c7, eq_true c20, eq_false c42, eq_true c48, eq_true c63, c78, if_true, if_false, Bool.true_eq_false, Bool.false_eq_true, reduceIte, reduceCtorEq, Bool.not_true, Bool.not_false, true_and, and_true, and_false, false_and, or_true, true_or, or_false, false_or, not_true_eq_false, not_false_eq_true] <;> exact hM, hF⟩
            · skip
              refine wp_goto (pc := 81) (tgt := 89) dX12_ask_81 (by decide) ?_
              refine wp_iconst (pc := 89) (v := 1) dX12_ask_89 (by decide) ?_
              refine wp_goto (pc := 90) (tgt := 94) dX12_ask_90 (by decide) ?_
              refine wp_istore (pc := 94) (lv' := [_, _, _, _, _, _, _, _]) dX12_ask_94 (Nat.le_of_ble_eq_true rfl) rfl rfl ?_
              refine wp_iload (pc := 96) dX12_ask_96 rfl ?_
              refine wp_if_ne (pc := 98) (tgt := 104) dX12_ask_98 (by decide) (fun _ => ?_) (fun z => absurd z (by decide))
              refine wp_aload_n (pc := 104) dX12_ask_104 rfl rfl ?_
              refine wp_get (pc := 105) dX12_ask_105 fl_X12_29_13 hM.1 rfl ?_
              refine wp_iload_n (pc := 108) dX12_ask_108 rfl rfl ?_
              refine wp_zald (pc := 109) (i := wa) dX12_ask_109 (hM.z 10 rfl) ⟨rfl, by omega, by decide⟩ ?_
              refine wp_if_ne (pc := 110) (tgt := 116) dX12_ask_110 (by decide) (fun c110 => ?_) (fun c110 => ?_)
              · skip
                refine wp_aload_n (pc := 116) dX12_ask_116 rfl rfl ?_
                refine wp_iconst (pc := 117) (v := 0) dX12_ask_117 (by decide) ?_
                refine wp_iload_n (pc := 118) dX12_ask_118 rfl rfl ?_
                refine wp_iload_n (pc := 119) dX12_ask_119 rfl rfl ?_
                refine wp_iload_n (pc := 120) dX12_ask_120 rfl rfl ?_
                refine wp_iload (pc := 121) dX12_ask_121 rfl ?_
                refine wp_iload (pc := 123) dX12_ask_123 rfl ?_
                refine wp_lconst (pc := 125) (v := 0) dX12_ask_125 (by decide) ?_
                refine mp_call (pc := 126) [_, _, _, _, _, _, _] dX12_ask_126 rfl cv_X12_224_13 rfl ⟨(Nat.le_of_ble_eq_true rfl), (Nat.le_of_ble_eq_true rfl)⟩ (Nat.le_of_ble_eq_true rfl) ⟨rfl, rfl⟩ (ms_marked l G x am _ _ _ _ _ _ _ _ (by exact hL) hL4 (by omega) (by omega)) hM hF (fun h hM hF => ?_)
                exact wp_iret (pc := 129) dX12_ask_129 rfl ⟨by simp only [f_ask, askOk, decide_true, decide_false, e1, e2, e3, c7, eq_true c20, eq_false c42, eq_true c48, eq_true c63, c78, eq_false c110, if_true, if_false, Bool.true_eq_false, Bool.false_eq_true, reduceIte, reduceCtorEq, Bool.not_true, Bool.not_false, true_and, and_true, and_false, false_and, or_true, true_or, or_false, false_or, not_true_eq_false, not_false_eq_true] <;> rfl, by simp only [f_ask, askOk, decide_true, decide_false, e1, e2, e3, c7, eq_true c20, eq_false c42, eq_true c48, eq_true c63, c78, eq_false c110, if_true, if_false, Bool.true_eq_false, Bool.false_eq_true, reduceIte, reduceCtorEq, Bool.not_true, Bool.not_false, true_and, and_true, and_false, false_and, or_true, true_or, or_false, false_or, not_true_eq_false, not_false_eq_true] <;> exact hM, hF⟩
              · skip
                refine wp_bipush (pc := 113) (v := (-3)) dX12_ask_113 (by decide) ?_
                exact wp_iret (pc := 115) dX12_ask_115 rfl ⟨by simp only [f_ask, askOk, decide_true, decide_false, e1, e2, e3, c7, eq_true c20, eq_false c42, eq_true c48, eq_true c63, c78, eq_true c110, if_true, if_false, Bool.true_eq_false, Bool.false_eq_true, reduceIte, reduceCtorEq, Bool.not_true, Bool.not_false, true_and, and_true, and_false, false_and, or_true, true_or, or_false, false_or, not_true_eq_false, not_false_eq_true] <;> rfl, by simp only [f_ask, askOk, decide_true, decide_false, e1, e2, e3, c7, eq_true c20, eq_false c42, eq_true c48, eq_true c63, c78, eq_true c110, if_true, if_false, Bool.true_eq_false, Bool.false_eq_true, reduceIte, reduceCtorEq, Bool.not_true, Bool.not_false, true_and, and_true, and_false, false_and, or_true, true_or, or_false, false_or, not_true_eq_false, not_false_eq_true] <;> exact hM, hF⟩
    · skip
      refine wp_aload_n (pc := 23) dX12_ask_23 rfl rfl ?_
      refine wp_get (pc := 24) dX12_ask_24 fl_X12_32_13 hM.1 rfl ?_
      refine wp_iload_n (pc := 27) dX12_ask_27 rfl rfl ?_
      refine wp_iald (pc := 28) (i := tc) dX12_ask_28 (hM.i 12 rfl) ⟨rfl, by omega, by decide⟩ ?_
      refine wp_iconst (pc := 29) (v := 3) dX12_ask_29 (by decide) ?_
      refine wp_icmp_ne (pc := 30) (tgt := 37) dX12_ask_30 (by decide) (fun c30 => ?_) (fun c30 => ?_)
      · skip
        refine wp_iconst (pc := 37) (v := 0) dX12_ask_37 (by decide) ?_
        refine wp_istore (pc := 38) (lv' := [_, _, _, _, _, _, _, _]) dX12_ask_38 (Nat.le_of_ble_eq_true rfl) rfl rfl ?_
        refine wp_iload (pc := 40) dX12_ask_40 rfl ?_
        refine wp_if_eq (pc := 42) (tgt := 56) dX12_ask_42 (by decide) (fun c42 => ?_) (fun c42 => ?_)
        · skip
          refine wp_aload_n (pc := 56) dX12_ask_56 rfl rfl ?_
          refine wp_get (pc := 57) dX12_ask_57 fl_X12_32_13 hM.1 rfl ?_
          refine wp_iload_n (pc := 60) dX12_ask_60 rfl rfl ?_
          refine wp_iald (pc := 61) (i := tc) dX12_ask_61 (hM.i 12 rfl) ⟨rfl, by omega, by decide⟩ ?_
          refine wp_iconst (pc := 62) (v := 2) dX12_ask_62 (by decide) ?_
          refine wp_icmp_ne (pc := 63) (tgt := 84) dX12_ask_63 (by decide) (fun c63 => ?_) (fun c63 => ?_)
          · skip
            refine wp_iload (pc := 84) dX12_ask_84 rfl ?_
            refine wp_if_ne (pc := 86) (tgt := 93) dX12_ask_86 (by decide) (fun c86 => ?_) (fun c86 => ?_)
            · skip
              refine wp_iconst (pc := 93) (v := 0) dX12_ask_93 (by decide) ?_
              refine wp_istore (pc := 94) (lv' := [_, _, _, _, _, _, _, _]) dX12_ask_94 (Nat.le_of_ble_eq_true rfl) rfl rfl ?_
              refine wp_iload (pc := 96) dX12_ask_96 rfl ?_
              refine wp_if_ne (pc := 98) (tgt := 104) dX12_ask_98 (by decide) (fun z => absurd (by decide) z) (fun _ => ?_)
              refine wp_bipush (pc := 101) (v := (-2)) dX12_ask_101 (by decide) ?_
              exact wp_iret (pc := 103) dX12_ask_103 rfl ⟨by simp only [f_ask, askOk, decide_true, decide_false, e1, e2, e3, c7, eq_false c20, eq_false c30, eq_true c42, eq_false c63, eq_false c86, if_true, if_false, Bool.true_eq_false, Bool.false_eq_true, reduceIte, reduceCtorEq, Bool.not_true, Bool.not_false, true_and, and_true, and_false, false_and, or_true, true_or, or_false, false_or, not_true_eq_false, not_false_eq_true] <;> rfl, by simp only [f_ask, askOk, decide_true, decide_false, e1, e2, e3, c7, eq_false c20, eq_false c30, eq_true c42, eq_false c63, eq_false c86, if_true, if_false, Bool.true_eq_false, Bool.false_eq_true, reduceIte, reduceCtorEq, Bool.not_true, Bool.not_false, true_and, and_true, and_false, false_and, or_true, true_or, or_false, false_or, not_true_eq_false, not_false_eq_true] <;> exact hM, hF⟩
            · skip
              refine wp_iconst (pc := 89) (v := 1) dX12_ask_89 (by decide) ?_
              refine wp_goto (pc := 90) (tgt := 94) dX12_ask_90 (by decide) ?_
              refine wp_istore (pc := 94) (lv' := [_, _, _, _, _, _, _, _]) dX12_ask_94 (Nat.le_of_ble_eq_true rfl) rfl rfl ?_
              refine wp_iload (pc := 96) dX12_ask_96 rfl ?_
              refine wp_if_ne (pc := 98) (tgt := 104) dX12_ask_98 (by decide) (fun _ => ?_) (fun z => absurd z (by decide))
              refine wp_aload_n (pc := 104) dX12_ask_104 rfl rfl ?_
              refine wp_get (pc := 105) dX12_ask_105 fl_X12_29_13 hM.1 rfl ?_
              refine wp_iload_n (pc := 108) dX12_ask_108 rfl rfl ?_
              refine wp_zald (pc := 109) (i := wa) dX12_ask_109 (hM.z 10 rfl) ⟨rfl, by omega, by decide⟩ ?_
              refine wp_if_ne (pc := 110) (tgt := 116) dX12_ask_110 (by decide) (fun c110 => ?_) (fun c110 => ?_)
              · skip
                refine wp_aload_n (pc := 116) dX12_ask_116 rfl rfl ?_
                refine wp_iconst (pc := 117) (v := 0) dX12_ask_117 (by decide) ?_
                refine wp_iload_n (pc := 118) dX12_ask_118 rfl rfl ?_
                refine wp_iload_n (pc := 119) dX12_ask_119 rfl rfl ?_
                refine wp_iload_n (pc := 120) dX12_ask_120 rfl rfl ?_
                refine wp_iload (pc := 121) dX12_ask_121 rfl ?_
                refine wp_iload (pc := 123) dX12_ask_123 rfl ?_
                refine wp_lconst (pc := 125) (v := 0) dX12_ask_125 (by decide) ?_
                refine mp_call (pc := 126) [_, _, _, _, _, _, _] dX12_ask_126 rfl cv_X12_224_13 rfl ⟨(Nat.le_of_ble_eq_true rfl), (Nat.le_of_ble_eq_true rfl)⟩ (Nat.le_of_ble_eq_true rfl) ⟨rfl, rfl⟩ (ms_marked l G x am _ _ _ _ _ _ _ _ (by exact hL) hL4 (by omega) (by omega)) hM hF (fun h hM hF => ?_)
                exact wp_iret (pc := 129) dX12_ask_129 rfl ⟨by simp only [f_ask, askOk, decide_true, decide_false, e1, e2, e3, c7, eq_false c20, eq_false c30, eq_true c42, eq_false c63, eq_true c86, eq_false c110, if_true, if_false, Bool.true_eq_false, Bool.false_eq_true, reduceIte, reduceCtorEq, Bool.not_true, Bool.not_false, true_and, and_true, and_false, false_and, or_true, true_or, or_false, false_or, not_true_eq_false, not_false_eq_true] <;> rfl, by simp only [f_ask, askOk, decide_true, decide_false, e1, e2, e3, c7, eq_false c20, eq_false c30, eq_true c42, eq_false c63, eq_true c86, eq_false c110, if_true, if_false, Bool.true_eq_false, Bool.false_eq_true, reduceIte, reduceCtorEq, Bool.not_true, Bool.not_false, true_and, and_true, and_false, false_and, or_true, true_or, or_false, false_or, not_true_eq_false, not_false_eq_true] <;> exact hM, hF⟩
              · skip
                refine wp_bipush (pc := 113) (v := (-3)) dX12_ask_113 (by decide) ?_
                exact wp_iret (pc := 115) dX12_ask_115 rfl ⟨by simp only [f_ask, askOk, decide_true, decide_false, e1, e2, e3, c7, eq_false c20, eq_false c30, eq_true c42, eq_false c63, eq_true c86, eq_true c110, if_true, if_false, Bool.true_eq_false, Bool.false_eq_true, reduceIte, reduceCtorEq, Bool.not_true, Bool.not_false, true_and, and_true, and_false, false_and, or_true, true_or, or_false, false_or, not_true_eq_false, not_false_eq_true] <;> rfl, by simp only [f_ask, askOk, decide_true, decide_false, e1, e2, e3, c7, eq_false c20, eq_false c30, eq_true c42, eq_false c63, eq_true c86, eq_true c110, if_true, if_false, Bool.true_eq_false, Bool.false_eq_true, reduceIte, reduceCtorEq, Bool.not_true, Bool.not_false, true_and, and_true, and_false, false_and, or_true, true_or, or_false, false_or, not_true_eq_false, not_false_eq_true] <;> exact hM, hF⟩
          · skip
            refine wp_iload (pc := 66) dX12_ask_66 rfl ?_
            refine wp_iconst (pc := 68) (v := 1) dX12_ask_68 (by decide) ?_
            refine wp_aload_n (pc := 69) dX12_ask_69 rfl rfl ?_
            refine wp_get (pc := 70) dX12_ask_70 fl_X12_38_13 hM.1 rfl ?_
            refine wp_iload_n (pc := 73) dX12_ask_73 rfl rfl ?_
            refine wp_iald (pc := 74) (i := tc) dX12_ask_74 (hM.i 14 rfl) ⟨rfl, by omega, by decide⟩ ?_
            refine mp_callS (pc := 75) [_, _, _] dX12_ask_75 rfl cs_X12_153 rfl ⟨(Nat.le_of_ble_eq_true rfl), (Nat.le_of_ble_eq_true rfl)⟩ (Nat.le_of_ble_eq_true rfl) ⟨rfl, rfl⟩ (ms_in l G _ _ _ h) ?_
            refine wp_ifB_eq (pc := 78) (tgt := 93) dX12_ask_78 (by decide) (fun c78 => ?_) (fun c78 => ?_)
            · skip
              refine wp_iconst (pc := 93) (v := 0) dX12_ask_93 (by decide) ?_
              refine wp_istore (pc := 94) (lv' := [_, _, _, _, _, _, _, _]) dX12_ask_94 (Nat.le_of_ble_eq_true rfl) rfl rfl ?_
              refine wp_iload (pc := 96) dX12_ask_96 rfl ?_
              refine wp_if_ne (pc := 98) (tgt := 104) dX12_ask_98 (by decide) (fun z => absurd (by decide) z) (fun _ => ?_)
              refine wp_bipush (pc := 101) (v := (-2)) dX12_ask_101 (by decide) ?_
              exact wp_iret (pc := 103) dX12_ask_103 rfl ⟨by simp only [f_ask, askOk, decide_true, decide_false, e1, e2, e3, c7, eq_false c20, eq_false c30, eq_true c42, eq_true c63, c78, if_true, if_false, Bool.true_eq_false, Bool.false_eq_true, reduceIte, reduceCtorEq, Bool.not_true, Bool.not_false, true_and, and_true, and_false, false_and, or_true, true_or, or_false, false_or, not_true_eq_false, not_false_eq_true] <;> rfl, by simp only [f_ask, askOk, decide_true, decide_false, e1, e2, e3, c7, eq_false c20, eq_false c30, eq_true c42, eq_true c63, c78, if_true, if_false, Bool.true_eq_false, Bool.false_eq_true, reduceIte, reduceCtorEq, Bool.not_true, Bool.not_false, true_and, and_true, and_false, false_and, or_true, true_or, or_false, false_or, not_true_eq_false, not_false_eq_true] <;> exact hM, hF⟩
            · skip
              refine wp_goto (pc := 81) (tgt := 89) dX12_ask_81 (by decide) ?_
              refine wp_iconst (pc := 89) (v := 1) dX12_ask_89 (by decide) ?_
              refine wp_goto (pc := 90) (tgt := 94) dX12_ask_90 (by decide) ?_
              refine wp_istore (pc := 94) (lv' := [_, _, _, _, _, _, _, _]) dX12_ask_94 (Nat.le_of_ble_eq_true rfl) rfl rfl ?_
              refine wp_iload (pc := 96) dX12_ask_96 rfl ?_
              refine wp_if_ne (pc := 98) (tgt := 104) dX12_ask_98 (by decide) (fun _ => ?_) (fun z => absurd z (by decide))
              refine wp_aload_n (pc := 104) dX12_ask_104 rfl rfl ?_
              refine wp_get (pc := 105) dX12_ask_105 fl_X12_29_13 hM.1 rfl ?_
              refine wp_iload_n (pc := 108) dX12_ask_108 rfl rfl ?_
              refine wp_zald (pc := 109) (i := wa) dX12_ask_109 (hM.z 10 rfl) ⟨rfl, by omega, by decide⟩ ?_
              refine wp_if_ne (pc := 110) (tgt := 116) dX12_ask_110 (by decide) (fun c110 => ?_) (fun c110 => ?_)
              · skip
                refine wp_aload_n (pc := 116) dX12_ask_116 rfl rfl ?_
                refine wp_iconst (pc := 117) (v := 0) dX12_ask_117 (by decide) ?_
                refine wp_iload_n (pc := 118) dX12_ask_118 rfl rfl ?_
                refine wp_iload_n (pc := 119) dX12_ask_119 rfl rfl ?_
                refine wp_iload_n (pc := 120) dX12_ask_120 rfl rfl ?_
                refine wp_iload (pc := 121) dX12_ask_121 rfl ?_
                refine wp_iload (pc := 123) dX12_ask_123 rfl ?_
                refine wp_lconst (pc := 125) (v := 0) dX12_ask_125 (by decide) ?_
                refine mp_call (pc := 126) [_, _, _, _, _, _, _] dX12_ask_126 rfl cv_X12_224_13 rfl ⟨(Nat.le_of_ble_eq_true rfl), (Nat.le_of_ble_eq_true rfl)⟩ (Nat.le_of_ble_eq_true rfl) ⟨rfl, rfl⟩ (ms_marked l G x am _ _ _ _ _ _ _ _ (by exact hL) hL4 (by omega) (by omega)) hM hF (fun h hM hF => ?_)
                exact wp_iret (pc := 129) dX12_ask_129 rfl ⟨by simp only [f_ask, askOk, decide_true, decide_false, e1, e2, e3, c7, eq_false c20, eq_false c30, eq_true c42, eq_true c63, c78, eq_false c110, if_true, if_false, Bool.true_eq_false, Bool.false_eq_true, reduceIte, reduceCtorEq, Bool.not_true, Bool.not_false, true_and, and_true, and_false, false_and, or_true, true_or, or_false, false_or, not_true_eq_false, not_false_eq_true] <;> rfl, by simp only [f_ask, askOk, decide_true, decide_false, e1, e2, e3, c7, eq_false c20, eq_false c30, eq_true c42, eq_true c63, c78, eq_false c110, if_true, if_false, Bool.true_eq_false, Bool.false_eq_true, reduceIte, reduceCtorEq, Bool.not_true, Bool.not_false, true_and, and_true, and_false, false_and, or_true, true_or, or_false, false_or, not_true_eq_false, not_false_eq_true] <;> exact hM, hF⟩
              · skip
                refine wp_bipush (pc := 113) (v := (-3)) dX12_ask_113 (by decide) ?_
                exact wp_iret (pc := 115) dX12_ask_115 rfl ⟨by simp only [f_ask, askOk, decide_true, decide_false, e1, e2, e3, c7, eq_false c20, eq_false c30, eq_true c42, eq_true c63, c78, eq_true c110, if_true, if_false, Bool.true_eq_false, Bool.false_eq_true, reduceIte, reduceCtorEq, Bool.not_true, Bool.not_false, true_and, and_true, and_false, false_and, or_true, true_or, or_false, false_or, not_true_eq_false, not_false_eq_true] <;> rfl, by simp only [f_ask, askOk, decide_true, decide_false, e1, e2, e3, c7, eq_false c20, eq_false c30, eq_true c42, eq_true c63, c78, eq_true c110, if_true, if_false, Bool.true_eq_false, Bool.false_eq_true, reduceIte, reduceCtorEq, Bool.not_true, Bool.not_false, true_and, and_true, and_false, false_and, or_true, true_or, or_false, false_or, not_true_eq_false, not_false_eq_true] <;> exact hM, hF⟩
        · skip
          refine wp_iload (pc := 45) dX12_ask_45 rfl ?_
          refine wp_iconst (pc := 47) (v := 1) dX12_ask_47 (by decide) ?_
          refine wp_icmp_ne (pc := 48) (tgt := 93) dX12_ask_48 (by decide) (fun c48 => ?_) (fun c48 => ?_)
          · skip
            refine wp_iconst (pc := 93) (v := 0) dX12_ask_93 (by decide) ?_
            refine wp_istore (pc := 94) (lv' := [_, _, _, _, _, _, _, _]) dX12_ask_94 (Nat.le_of_ble_eq_true rfl) rfl rfl ?_
            refine wp_iload (pc := 96) dX12_ask_96 rfl ?_
            refine wp_if_ne (pc := 98) (tgt := 104) dX12_ask_98 (by decide) (fun z => absurd (by decide) z) (fun _ => ?_)
            refine wp_bipush (pc := 101) (v := (-2)) dX12_ask_101 (by decide) ?_
            exact wp_iret (pc := 103) dX12_ask_103 rfl ⟨by simp only [f_ask, askOk, decide_true, decide_false, e1, e2, e3, c7, eq_false c20, eq_false c30, eq_false c42, eq_false c48, if_true, if_false, Bool.true_eq_false, Bool.false_eq_true, reduceIte, reduceCtorEq, Bool.not_true, Bool.not_false, true_and, and_true, and_false, false_and, or_true, true_or, or_false, false_or, not_true_eq_false, not_false_eq_true] <;> rfl, by simp only [f_ask, askOk, decide_true, decide_false, e1, e2, e3, c7, eq_false c20, eq_false c30, eq_false c42, eq_false c48, if_true, if_false, Bool.true_eq_false, Bool.false_eq_true, reduceIte, reduceCtorEq, Bool.not_true, Bool.not_false, true_and, and_true, and_false, false_and, or_true, true_or, or_false, false_or, not_true_eq_false, not_false_eq_true] <;> exact hM, hF⟩
          · skip
            refine wp_iload (pc := 51) dX12_ask_51 rfl ?_
            refine wp_if_eq (pc := 53) (tgt := 93) dX12_ask_53 (by decide) (fun _ => ?_) (fun z => absurd (by decide) z)
            refine wp_iconst (pc := 93) (v := 0) dX12_ask_93 (by decide) ?_
            refine wp_istore (pc := 94) (lv' := [_, _, _, _, _, _, _, _]) dX12_ask_94 (Nat.le_of_ble_eq_true rfl) rfl rfl ?_
            refine wp_iload (pc := 96) dX12_ask_96 rfl ?_
            refine wp_if_ne (pc := 98) (tgt := 104) dX12_ask_98 (by decide) (fun z => absurd (by decide) z) (fun _ => ?_)
            refine wp_bipush (pc := 101) (v := (-2)) dX12_ask_101 (by decide) ?_
            exact wp_iret (pc := 103) dX12_ask_103 rfl ⟨by simp only [f_ask, askOk, decide_true, decide_false, e1, e2, e3, c7, eq_false c20, eq_false c30, eq_false c42, eq_true c48, if_true, if_false, Bool.true_eq_false, Bool.false_eq_true, reduceIte, reduceCtorEq, Bool.not_true, Bool.not_false, true_and, and_true, and_false, false_and, or_true, true_or, or_false, false_or, not_true_eq_false, not_false_eq_true] <;> rfl, by simp only [f_ask, askOk, decide_true, decide_false, e1, e2, e3, c7, eq_false c20, eq_false c30, eq_false c42, eq_true c48, if_true, if_false, Bool.true_eq_false, Bool.false_eq_true, reduceIte, reduceCtorEq, Bool.not_true, Bool.not_false, true_and, and_true, and_false, false_and, or_true, true_or, or_false, false_or, not_true_eq_false, not_false_eq_true] <;> exact hM, hF⟩
      · skip
        refine wp_iconst (pc := 33) (v := 1) dX12_ask_33 (by decide) ?_
        refine wp_goto (pc := 34) (tgt := 38) dX12_ask_34 (by decide) ?_
        refine wp_istore (pc := 38) (lv' := [_, _, _, _, _, _, _, _]) dX12_ask_38 (Nat.le_of_ble_eq_true rfl) rfl rfl ?_
        refine wp_iload (pc := 40) dX12_ask_40 rfl ?_
        refine wp_if_eq (pc := 42) (tgt := 56) dX12_ask_42 (by decide) (fun c42 => ?_) (fun c42 => ?_)
        · skip
          refine wp_aload_n (pc := 56) dX12_ask_56 rfl rfl ?_
          refine wp_get (pc := 57) dX12_ask_57 fl_X12_32_13 hM.1 rfl ?_
          refine wp_iload_n (pc := 60) dX12_ask_60 rfl rfl ?_
          refine wp_iald (pc := 61) (i := tc) dX12_ask_61 (hM.i 12 rfl) ⟨rfl, by omega, by decide⟩ ?_
          refine wp_iconst (pc := 62) (v := 2) dX12_ask_62 (by decide) ?_
          refine wp_icmp_ne (pc := 63) (tgt := 84) dX12_ask_63 (by decide) (fun c63 => ?_) (fun c63 => ?_)
          · skip
            refine wp_iload (pc := 84) dX12_ask_84 rfl ?_
            refine wp_if_ne (pc := 86) (tgt := 93) dX12_ask_86 (by decide) (fun c86 => ?_) (fun c86 => ?_)
            · skip
              refine wp_iconst (pc := 93) (v := 0) dX12_ask_93 (by decide) ?_
              refine wp_istore (pc := 94) (lv' := [_, _, _, _, _, _, _, _]) dX12_ask_94 (Nat.le_of_ble_eq_true rfl) rfl rfl ?_
              refine wp_iload (pc := 96) dX12_ask_96 rfl ?_
              refine wp_if_ne (pc := 98) (tgt := 104) dX12_ask_98 (by decide) (fun z => absurd (by decide) z) (fun _ => ?_)
              refine wp_bipush (pc := 101) (v := (-2)) dX12_ask_101 (by decide) ?_
              exact wp_iret (pc := 103) dX12_ask_103 rfl ⟨by simp only [f_ask, askOk, decide_true, decide_false, e1, e2, e3, c7, eq_false c20, eq_true c30, eq_true c42, eq_false c63, eq_false c86, if_true, if_false, Bool.true_eq_false, Bool.false_eq_true, reduceIte, reduceCtorEq, Bool.not_true, Bool.not_false, true_and, and_true, and_false, false_and, or_true, true_or, or_false, false_or, not_true_eq_false, not_false_eq_true] <;> rfl, by simp only [f_ask, askOk, decide_true, decide_false, e1, e2, e3, c7, eq_false c20, eq_true c30, eq_true c42, eq_false c63, eq_false c86, if_true, if_false, Bool.true_eq_false, Bool.false_eq_true, reduceIte, reduceCtorEq, Bool.not_true, Bool.not_false, true_and, and_true, and_false, false_and, or_true, true_or, or_false, false_or, not_true_eq_false, not_false_eq_true] <;> exact hM, hF⟩
            · skip
              refine wp_iconst (pc := 89) (v := 1) dX12_ask_89 (by decide) ?_
              refine wp_goto (pc := 90) (tgt := 94) dX12_ask_90 (by decide) ?_
              refine wp_istore (pc := 94) (lv' := [_, _, _, _, _, _, _, _]) dX12_ask_94 (Nat.le_of_ble_eq_true rfl) rfl rfl ?_
              refine wp_iload (pc := 96) dX12_ask_96 rfl ?_
              refine wp_if_ne (pc := 98) (tgt := 104) dX12_ask_98 (by decide) (fun _ => ?_) (fun z => absurd z (by decide))
              refine wp_aload_n (pc := 104) dX12_ask_104 rfl rfl ?_
              refine wp_get (pc := 105) dX12_ask_105 fl_X12_29_13 hM.1 rfl ?_
              refine wp_iload_n (pc := 108) dX12_ask_108 rfl rfl ?_
              refine wp_zald (pc := 109) (i := wa) dX12_ask_109 (hM.z 10 rfl) ⟨rfl, by omega, by decide⟩ ?_
              refine wp_if_ne (pc := 110) (tgt := 116) dX12_ask_110 (by decide) (fun c110 => ?_) (fun c110 => ?_)
              · skip
                refine wp_aload_n (pc := 116) dX12_ask_116 rfl rfl ?_
                refine wp_iconst (pc := 117) (v := 0) dX12_ask_117 (by decide) ?_
                refine wp_iload_n (pc := 118) dX12_ask_118 rfl rfl ?_
                refine wp_iload_n (pc := 119) dX12_ask_119 rfl rfl ?_
                refine wp_iload_n (pc := 120) dX12_ask_120 rfl rfl ?_
                refine wp_iload (pc := 121) dX12_ask_121 rfl ?_
                refine wp_iload (pc := 123) dX12_ask_123 rfl ?_
                refine wp_lconst (pc := 125) (v := 0) dX12_ask_125 (by decide) ?_
                refine mp_call (pc := 126) [_, _, _, _, _, _, _] dX12_ask_126 rfl cv_X12_224_13 rfl ⟨(Nat.le_of_ble_eq_true rfl), (Nat.le_of_ble_eq_true rfl)⟩ (Nat.le_of_ble_eq_true rfl) ⟨rfl, rfl⟩ (ms_marked l G x am _ _ _ _ _ _ _ _ (by exact hL) hL4 (by omega) (by omega)) hM hF (fun h hM hF => ?_)
                exact wp_iret (pc := 129) dX12_ask_129 rfl ⟨by simp only [f_ask, askOk, decide_true, decide_false, e1, e2, e3, c7, eq_false c20, eq_true c30, eq_true c42, eq_false c63, eq_true c86, eq_false c110, if_true, if_false, Bool.true_eq_false, Bool.false_eq_true, reduceIte, reduceCtorEq, Bool.not_true, Bool.not_false, true_and, and_true, and_false, false_and, or_true, true_or, or_false, false_or, not_true_eq_false, not_false_eq_true] <;> rfl, by simp only [f_ask, askOk, decide_true, decide_false, e1, e2, e3, c7, eq_false c20, eq_true c30, eq_true c42, eq_false c63, eq_true c86, eq_false c110, if_true, if_false, Bool.true_eq_false, Bool.false_eq_true, reduceIte, reduceCtorEq, Bool.not_true, Bool.not_false, true_and, and_true, and_false, false_and, or_true, true_or, or_false, false_or, not_true_eq_false, not_false_eq_true] <;> exact hM, hF⟩
              · skip
                refine wp_bipush (pc := 113) (v := (-3)) dX12_ask_113 (by decide) ?_
                exact wp_iret (pc := 115) dX12_ask_115 rfl ⟨by simp only [f_ask, askOk, decide_true, decide_false, e1, e2, e3, c7, eq_false c20, eq_true c30, eq_true c42, eq_false c63, eq_true c86, eq_true c110, if_true, if_false, Bool.true_eq_false, Bool.false_eq_true, reduceIte, reduceCtorEq, Bool.not_true, Bool.not_false, true_and, and_true, and_false, false_and, or_true, true_or, or_false, false_or, not_true_eq_false, not_false_eq_true] <;> rfl, by simp only [f_ask, askOk, decide_true, decide_false, e1, e2, e3, c7, eq_false c20, eq_true c30, eq_true c42, eq_false c63, eq_true c86, eq_true c110, if_true, if_false, Bool.true_eq_false, Bool.false_eq_true, reduceIte, reduceCtorEq, Bool.not_true, Bool.not_false, true_and, and_true, and_false, false_and, or_true, true_or, or_false, false_or, not_true_eq_false, not_false_eq_true] <;> exact hM, hF⟩
          · skip
            refine wp_iload (pc := 66) dX12_ask_66 rfl ?_
            refine wp_iconst (pc := 68) (v := 1) dX12_ask_68 (by decide) ?_
            refine wp_aload_n (pc := 69) dX12_ask_69 rfl rfl ?_
            refine wp_get (pc := 70) dX12_ask_70 fl_X12_38_13 hM.1 rfl ?_
            refine wp_iload_n (pc := 73) dX12_ask_73 rfl rfl ?_
            refine wp_iald (pc := 74) (i := tc) dX12_ask_74 (hM.i 14 rfl) ⟨rfl, by omega, by decide⟩ ?_
            refine mp_callS (pc := 75) [_, _, _] dX12_ask_75 rfl cs_X12_153 rfl ⟨(Nat.le_of_ble_eq_true rfl), (Nat.le_of_ble_eq_true rfl)⟩ (Nat.le_of_ble_eq_true rfl) ⟨rfl, rfl⟩ (ms_in l G _ _ _ h) ?_
            refine wp_ifB_eq (pc := 78) (tgt := 93) dX12_ask_78 (by decide) (fun c78 => ?_) (fun c78 => ?_)
            · skip
              refine wp_iconst (pc := 93) (v := 0) dX12_ask_93 (by decide) ?_
              refine wp_istore (pc := 94) (lv' := [_, _, _, _, _, _, _, _]) dX12_ask_94 (Nat.le_of_ble_eq_true rfl) rfl rfl ?_
              refine wp_iload (pc := 96) dX12_ask_96 rfl ?_
              refine wp_if_ne (pc := 98) (tgt := 104) dX12_ask_98 (by decide) (fun z => absurd (by decide) z) (fun _ => ?_)
              refine wp_bipush (pc := 101) (v := (-2)) dX12_ask_101 (by decide) ?_
              exact wp_iret (pc := 103) dX12_ask_103 rfl ⟨by simp only [f_ask, askOk, decide_true, decide_false, e1, e2, e3, c7, eq_false c20, eq_true c30, eq_true c42, eq_true c63, c78, if_true, if_false, Bool.true_eq_false, Bool.false_eq_true, reduceIte, reduceCtorEq, Bool.not_true, Bool.not_false, true_and, and_true, and_false, false_and, or_true, true_or, or_false, false_or, not_true_eq_false, not_false_eq_true] <;> rfl, by simp only [f_ask, askOk, decide_true, decide_false, e1, e2, e3, c7, eq_false c20, eq_true c30, eq_true c42, eq_true c63, c78, if_true, if_false, Bool.true_eq_false, Bool.false_eq_true, reduceIte, reduceCtorEq, Bool.not_true, Bool.not_false, true_and, and_true, and_false, false_and, or_true, true_or, or_false, false_or, not_true_eq_false, not_false_eq_true] <;> exact hM, hF⟩
            · skip
              refine wp_goto (pc := 81) (tgt := 89) dX12_ask_81 (by decide) ?_
              refine wp_iconst (pc := 89) (v := 1) dX12_ask_89 (by decide) ?_
              refine wp_goto (pc := 90) (tgt := 94) dX12_ask_90 (by decide) ?_
              refine wp_istore (pc := 94) (lv' := [_, _, _, _, _, _, _, _]) dX12_ask_94 (Nat.le_of_ble_eq_true rfl) rfl rfl ?_
              refine wp_iload (pc := 96) dX12_ask_96 rfl ?_
              refine wp_if_ne (pc := 98) (tgt := 104) dX12_ask_98 (by decide) (fun _ => ?_) (fun z => absurd z (by decide))
              refine wp_aload_n (pc := 104) dX12_ask_104 rfl rfl ?_
              refine wp_get (pc := 105) dX12_ask_105 fl_X12_29_13 hM.1 rfl ?_
              refine wp_iload_n (pc := 108) dX12_ask_108 rfl rfl ?_
              refine wp_zald (pc := 109) (i := wa) dX12_ask_109 (hM.z 10 rfl) ⟨rfl, by omega, by decide⟩ ?_
              refine wp_if_ne (pc := 110) (tgt := 116) dX12_ask_110 (by decide) (fun c110 => ?_) (fun c110 => ?_)
              · skip
                refine wp_aload_n (pc := 116) dX12_ask_116 rfl rfl ?_
                refine wp_iconst (pc := 117) (v := 0) dX12_ask_117 (by decide) ?_
                refine wp_iload_n (pc := 118) dX12_ask_118 rfl rfl ?_
                refine wp_iload_n (pc := 119) dX12_ask_119 rfl rfl ?_
                refine wp_iload_n (pc := 120) dX12_ask_120 rfl rfl ?_
                refine wp_iload (pc := 121) dX12_ask_121 rfl ?_
                refine wp_iload (pc := 123) dX12_ask_123 rfl ?_
                refine wp_lconst (pc := 125) (v := 0) dX12_ask_125 (by decide) ?_
                refine mp_call (pc := 126) [_, _, _, _, _, _, _] dX12_ask_126 rfl cv_X12_224_13 rfl ⟨(Nat.le_of_ble_eq_true rfl), (Nat.le_of_ble_eq_true rfl)⟩ (Nat.le_of_ble_eq_true rfl) ⟨rfl, rfl⟩ (ms_marked l G x am _ _ _ _ _ _ _ _ (by exact hL) hL4 (by omega) (by omega)) hM hF (fun h hM hF => ?_)
                exact wp_iret (pc := 129) dX12_ask_129 rfl ⟨by simp only [f_ask, askOk, decide_true, decide_false, e1, e2, e3, c7, eq_false c20, eq_true c30, eq_true c42, eq_true c63, c78, eq_false c110, if_true, if_false, Bool.true_eq_false, Bool.false_eq_true, reduceIte, reduceCtorEq, Bool.not_true, Bool.not_false, true_and, and_true, and_false, false_and, or_true, true_or, or_false, false_or, not_true_eq_false, not_false_eq_true] <;> rfl, by simp only [f_ask, askOk, decide_true, decide_false, e1, e2, e3, c7, eq_false c20, eq_true c30, eq_true c42, eq_true c63, c78, eq_false c110, if_true, if_false, Bool.true_eq_false, Bool.false_eq_true, reduceIte, reduceCtorEq, Bool.not_true, Bool.not_false, true_and, and_true, and_false, false_and, or_true, true_or, or_false, false_or, not_true_eq_false, not_false_eq_true] <;> exact hM, hF⟩
              · skip
                refine wp_bipush (pc := 113) (v := (-3)) dX12_ask_113 (by decide) ?_
                exact wp_iret (pc := 115) dX12_ask_115 rfl ⟨by simp only [f_ask, askOk, decide_true, decide_false, e1, e2, e3, c7, eq_false c20, eq_true c30, eq_true c42, eq_true c63, c78, eq_true c110, if_true, if_false, Bool.true_eq_false, Bool.false_eq_true, reduceIte, reduceCtorEq, Bool.not_true, Bool.not_false, true_and, and_true, and_false, false_and, or_true, true_or, or_false, false_or, not_true_eq_false, not_false_eq_true] <;> rfl, by simp only [f_ask, askOk, decide_true, decide_false, e1, e2, e3, c7, eq_false c20, eq_true c30, eq_true c42, eq_true c63, c78, eq_true c110, if_true, if_false, Bool.true_eq_false, Bool.false_eq_true, reduceIte, reduceCtorEq, Bool.not_true, Bool.not_false, true_and, and_true, and_false, false_and, or_true, true_or, or_false, false_or, not_true_eq_false, not_false_eq_true] <;> exact hM, hF⟩
        · skip
          refine wp_iload (pc := 45) dX12_ask_45 rfl ?_
          refine wp_iconst (pc := 47) (v := 1) dX12_ask_47 (by decide) ?_
          refine wp_icmp_ne (pc := 48) (tgt := 93) dX12_ask_48 (by decide) (fun c48 => ?_) (fun c48 => ?_)
          · skip
            refine wp_iconst (pc := 93) (v := 0) dX12_ask_93 (by decide) ?_
            refine wp_istore (pc := 94) (lv' := [_, _, _, _, _, _, _, _]) dX12_ask_94 (Nat.le_of_ble_eq_true rfl) rfl rfl ?_
            refine wp_iload (pc := 96) dX12_ask_96 rfl ?_
            refine wp_if_ne (pc := 98) (tgt := 104) dX12_ask_98 (by decide) (fun z => absurd (by decide) z) (fun _ => ?_)
            refine wp_bipush (pc := 101) (v := (-2)) dX12_ask_101 (by decide) ?_
            exact wp_iret (pc := 103) dX12_ask_103 rfl ⟨by simp only [f_ask, askOk, decide_true, decide_false, e1, e2, e3, c7, eq_false c20, eq_true c30, eq_false c42, eq_false c48, if_true, if_false, Bool.true_eq_false, Bool.false_eq_true, reduceIte, reduceCtorEq, Bool.not_true, Bool.not_false, true_and, and_true, and_false, false_and, or_true, true_or, or_false, false_or, not_true_eq_false, not_false_eq_true] <;> rfl, by simp only [f_ask, askOk, decide_true, decide_false, e1, e2, e3, c7, eq_false c20, eq_true c30, eq_false c42, eq_false c48, if_true, if_false, Bool.true_eq_false, Bool.false_eq_true, reduceIte, reduceCtorEq, Bool.not_true, Bool.not_false, true_and, and_true, and_false, false_and, or_true, true_or, or_false, false_or, not_true_eq_false, not_false_eq_true] <;> exact hM, hF⟩
          · skip
            refine wp_iload (pc := 51) dX12_ask_51 rfl ?_
            refine wp_if_eq (pc := 53) (tgt := 93) dX12_ask_53 (by decide) (fun z => absurd z (by decide)) (fun _ => ?_)
            refine wp_aload_n (pc := 56) dX12_ask_56 rfl rfl ?_
            refine wp_get (pc := 57) dX12_ask_57 fl_X12_32_13 hM.1 rfl ?_
            refine wp_iload_n (pc := 60) dX12_ask_60 rfl rfl ?_
            refine wp_iald (pc := 61) (i := tc) dX12_ask_61 (hM.i 12 rfl) ⟨rfl, by omega, by decide⟩ ?_
            refine wp_iconst (pc := 62) (v := 2) dX12_ask_62 (by decide) ?_
            refine wp_icmp_ne (pc := 63) (tgt := 84) dX12_ask_63 (by decide) (fun c63 => ?_) (fun c63 => ?_)
            · skip
              refine wp_iload (pc := 84) dX12_ask_84 rfl ?_
              refine wp_if_ne (pc := 86) (tgt := 93) dX12_ask_86 (by decide) (fun c86 => ?_) (fun c86 => ?_)
              · skip
                refine wp_iconst (pc := 93) (v := 0) dX12_ask_93 (by decide) ?_
                refine wp_istore (pc := 94) (lv' := [_, _, _, _, _, _, _, _]) dX12_ask_94 (Nat.le_of_ble_eq_true rfl) rfl rfl ?_
                refine wp_iload (pc := 96) dX12_ask_96 rfl ?_
                refine wp_if_ne (pc := 98) (tgt := 104) dX12_ask_98 (by decide) (fun z => absurd (by decide) z) (fun _ => ?_)
                refine wp_bipush (pc := 101) (v := (-2)) dX12_ask_101 (by decide) ?_
                exact wp_iret (pc := 103) dX12_ask_103 rfl ⟨by simp only [f_ask, askOk, decide_true, decide_false, e1, e2, e3, c7, eq_false c20, eq_true c30, eq_false c42, eq_true c48, eq_false c63, eq_false c86, if_true, if_false, Bool.true_eq_false, Bool.false_eq_true, reduceIte, reduceCtorEq, Bool.not_true, Bool.not_false, true_and, and_true, and_false, false_and, or_true, true_or, or_false, false_or, not_true_eq_false, not_false_eq_true] <;> rfl, by simp only [f_ask, askOk, decide_true, decide_false, e1, e2, e3, c7, eq_false c20, eq_true c30, eq_false c42, eq_true c48, eq_false c63, eq_false c86, if_true, if_false, Bool.true_eq_false, Bool.false_eq_true, reduceIte, reduceCtorEq, Bool.not_true, Bool.not_false, true_and, and_true, and_false, false_and, or_true, true_or, or_false, false_or, not_true_eq_false, not_false_eq_true] <;> exact hM, hF⟩
              · skip
                refine wp_iconst (pc := 89) (v := 1) dX12_ask_89 (by decide) ?_
                refine wp_goto (pc := 90) (tgt := 94) dX12_ask_90 (by decide) ?_
                refine wp_istore (pc := 94) (lv' := [_, _, _, _, _, _, _, _]) dX12_ask_94 (Nat.le_of_ble_eq_true rfl) rfl rfl ?_
                refine wp_iload (pc := 96) dX12_ask_96 rfl ?_
                refine wp_if_ne (pc := 98) (tgt := 104) dX12_ask_98 (by decide) (fun _ => ?_) (fun z => absurd z (by decide))
                refine wp_aload_n (pc := 104) dX12_ask_104 rfl rfl ?_
                refine wp_get (pc := 105) dX12_ask_105 fl_X12_29_13 hM.1 rfl ?_
                refine wp_iload_n (pc := 108) dX12_ask_108 rfl rfl ?_
                refine wp_zald (pc := 109) (i := wa) dX12_ask_109 (hM.z 10 rfl) ⟨rfl, by omega, by decide⟩ ?_
                refine wp_if_ne (pc := 110) (tgt := 116) dX12_ask_110 (by decide) (fun c110 => ?_) (fun c110 => ?_)
                · skip
                  refine wp_aload_n (pc := 116) dX12_ask_116 rfl rfl ?_
                  refine wp_iconst (pc := 117) (v := 0) dX12_ask_117 (by decide) ?_
                  refine wp_iload_n (pc := 118) dX12_ask_118 rfl rfl ?_
                  refine wp_iload_n (pc := 119) dX12_ask_119 rfl rfl ?_
                  refine wp_iload_n (pc := 120) dX12_ask_120 rfl rfl ?_
                  refine wp_iload (pc := 121) dX12_ask_121 rfl ?_
                  refine wp_iload (pc := 123) dX12_ask_123 rfl ?_
                  refine wp_lconst (pc := 125) (v := 0) dX12_ask_125 (by decide) ?_
                  refine mp_call (pc := 126) [_, _, _, _, _, _, _] dX12_ask_126 rfl cv_X12_224_13 rfl ⟨(Nat.le_of_ble_eq_true rfl), (Nat.le_of_ble_eq_true rfl)⟩ (Nat.le_of_ble_eq_true rfl) ⟨rfl, rfl⟩ (ms_marked l G x am _ _ _ _ _ _ _ _ (by exact hL) hL4 (by omega) (by omega)) hM hF (fun h hM hF => ?_)
                  exact wp_iret (pc := 129) dX12_ask_129 rfl ⟨by simp only [f_ask, askOk, decide_true, decide_false, e1, e2, e3, c7, eq_false c20, eq_true c30, eq_false c42, eq_true c48, eq_false c63, eq_true c86, eq_false c110, if_true, if_false, Bool.true_eq_false, Bool.false_eq_true, reduceIte, reduceCtorEq, Bool.not_true, Bool.not_false, true_and, and_true, and_false, false_and, or_true, true_or, or_false, false_or, not_true_eq_false, not_false_eq_true] <;> rfl, by simp only [f_ask, askOk, decide_true, decide_false, e1, e2, e3, c7, eq_false c20, eq_true c30, eq_false c42, eq_true c48, eq_false c63, eq_true c86, eq_false c110, if_true, if_false, Bool.true_eq_false, Bool.false_eq_true, reduceIte, reduceCtorEq, Bool.not_true, Bool.not_false, true_and, and_true, and_false, false_and, or_true, true_or, or_false, false_or, not_true_eq_false, not_false_eq_true] <;> exact hM, hF⟩
                · skip
                  refine wp_bipush (pc := 113) (v := (-3)) dX12_ask_113 (by decide) ?_
                  exact wp_iret (pc := 115) dX12_ask_115 rfl ⟨by simp only [f_ask, askOk, decide_true, decide_false, e1, e2, e3, c7, eq_false c20, eq_true c30, eq_false c42, eq_true c48, eq_false c63, eq_true c86, eq_true c110, if_true, if_false, Bool.true_eq_false, Bool.false_eq_true, reduceIte, reduceCtorEq, Bool.not_true, Bool.not_false, true_and, and_true, and_false, false_and, or_true, true_or, or_false, false_or, not_true_eq_false, not_false_eq_true] <;> rfl, by simp only [f_ask, askOk, decide_true, decide_false, e1, e2, e3, c7, eq_false c20, eq_true c30, eq_false c42, eq_true c48, eq_false c63, eq_true c86, eq_true c110, if_true, if_false, Bool.true_eq_false, Bool.false_eq_true, reduceIte, reduceCtorEq, Bool.not_true, Bool.not_false, true_and, and_true, and_false, false_and, or_true, true_or, or_false, false_or, not_true_eq_false, not_false_eq_true] <;> exact hM, hF⟩
            · skip
              refine wp_iload (pc := 66) dX12_ask_66 rfl ?_
              refine wp_iconst (pc := 68) (v := 1) dX12_ask_68 (by decide) ?_
              refine wp_aload_n (pc := 69) dX12_ask_69 rfl rfl ?_
              refine wp_get (pc := 70) dX12_ask_70 fl_X12_38_13 hM.1 rfl ?_
              refine wp_iload_n (pc := 73) dX12_ask_73 rfl rfl ?_
              refine wp_iald (pc := 74) (i := tc) dX12_ask_74 (hM.i 14 rfl) ⟨rfl, by omega, by decide⟩ ?_
              refine mp_callS (pc := 75) [_, _, _] dX12_ask_75 rfl cs_X12_153 rfl ⟨(Nat.le_of_ble_eq_true rfl), (Nat.le_of_ble_eq_true rfl)⟩ (Nat.le_of_ble_eq_true rfl) ⟨rfl, rfl⟩ (ms_in l G _ _ _ h) ?_
              refine wp_ifB_eq (pc := 78) (tgt := 93) dX12_ask_78 (by decide) (fun c78 => ?_) (fun c78 => ?_)
              · skip
                refine wp_iconst (pc := 93) (v := 0) dX12_ask_93 (by decide) ?_
                refine wp_istore (pc := 94) (lv' := [_, _, _, _, _, _, _, _]) dX12_ask_94 (Nat.le_of_ble_eq_true rfl) rfl rfl ?_
                refine wp_iload (pc := 96) dX12_ask_96 rfl ?_
                refine wp_if_ne (pc := 98) (tgt := 104) dX12_ask_98 (by decide) (fun z => absurd (by decide) z) (fun _ => ?_)
                refine wp_bipush (pc := 101) (v := (-2)) dX12_ask_101 (by decide) ?_
                exact wp_iret (pc := 103) dX12_ask_103 rfl ⟨by simp only [f_ask, askOk, decide_true, decide_false, e1, e2, e3, c7, eq_false c20, eq_true c30, eq_false c42, eq_true c48, eq_true c63, c78, if_true, if_false, Bool.true_eq_false, Bool.false_eq_true, reduceIte, reduceCtorEq, Bool.not_true, Bool.not_false, true_and, and_true, and_false, false_and, or_true, true_or, or_false, false_or, not_true_eq_false, not_false_eq_true] <;> rfl, by simp only [f_ask, askOk, decide_true, decide_false, e1, e2, e3, c7, eq_false c20, eq_true c30, eq_false c42, eq_true c48, eq_true c63, c78, if_true, if_false, Bool.true_eq_false, Bool.false_eq_true, reduceIte, reduceCtorEq, Bool.not_true, Bool.not_false, true_and, and_true, and_false, false_and, or_true, true_or, or_false, false_or, not_true_eq_false, not_false_eq_true] <;> exact hM, hF⟩
              · skip
                refine wp_goto (pc := 81) (tgt := 89) dX12_ask_81 (by decide) ?_
                refine wp_iconst (pc := 89) (v := 1) dX12_ask_89 (by decide) ?_
                refine wp_goto (pc := 90) (tgt := 94) dX12_ask_90 (by decide) ?_
                refine wp_istore (pc := 94) (lv' := [_, _, _, _, _, _, _, _]) dX12_ask_94 (Nat.le_of_ble_eq_true rfl) rfl rfl ?_
                refine wp_iload (pc := 96) dX12_ask_96 rfl ?_
                refine wp_if_ne (pc := 98) (tgt := 104) dX12_ask_98 (by decide) (fun _ => ?_) (fun z => absurd z (by decide))
                refine wp_aload_n (pc := 104) dX12_ask_104 rfl rfl ?_
                refine wp_get (pc := 105) dX12_ask_105 fl_X12_29_13 hM.1 rfl ?_
                refine wp_iload_n (pc := 108) dX12_ask_108 rfl rfl ?_
                refine wp_zald (pc := 109) (i := wa) dX12_ask_109 (hM.z 10 rfl) ⟨rfl, by omega, by decide⟩ ?_
                refine wp_if_ne (pc := 110) (tgt := 116) dX12_ask_110 (by decide) (fun c110 => ?_) (fun c110 => ?_)
                · skip
                  refine wp_aload_n (pc := 116) dX12_ask_116 rfl rfl ?_
                  refine wp_iconst (pc := 117) (v := 0) dX12_ask_117 (by decide) ?_
                  refine wp_iload_n (pc := 118) dX12_ask_118 rfl rfl ?_
                  refine wp_iload_n (pc := 119) dX12_ask_119 rfl rfl ?_
                  refine wp_iload_n (pc := 120) dX12_ask_120 rfl rfl ?_
                  refine wp_iload (pc := 121) dX12_ask_121 rfl ?_
                  refine wp_iload (pc := 123) dX12_ask_123 rfl ?_
                  refine wp_lconst (pc := 125) (v := 0) dX12_ask_125 (by decide) ?_
                  refine mp_call (pc := 126) [_, _, _, _, _, _, _] dX12_ask_126 rfl cv_X12_224_13 rfl ⟨(Nat.le_of_ble_eq_true rfl), (Nat.le_of_ble_eq_true rfl)⟩ (Nat.le_of_ble_eq_true rfl) ⟨rfl, rfl⟩ (ms_marked l G x am _ _ _ _ _ _ _ _ (by exact hL) hL4 (by omega) (by omega)) hM hF (fun h hM hF => ?_)
                  exact wp_iret (pc := 129) dX12_ask_129 rfl ⟨by simp only [f_ask, askOk, decide_true, decide_false, e1, e2, e3, c7, eq_false c20, eq_true c30, eq_false c42, eq_true c48, eq_true c63, c78, eq_false c110, if_true, if_false, Bool.true_eq_false, Bool.false_eq_true, reduceIte, reduceCtorEq, Bool.not_true, Bool.not_false, true_and, and_true, and_false, false_and, or_true, true_or, or_false, false_or, not_true_eq_false, not_false_eq_true] <;> rfl, by simp only [f_ask, askOk, decide_true, decide_false, e1, e2, e3, c7, eq_false c20, eq_true c30, eq_false c42, eq_true c48, eq_true c63, c78, eq_false c110, if_true, if_false, Bool.true_eq_false, Bool.false_eq_true, reduceIte, reduceCtorEq, Bool.not_true, Bool.not_false, true_and, and_true, and_false, false_and, or_true, true_or, or_false, false_or, not_true_eq_false, not_false_eq_true] <;> exact hM, hF⟩
                · skip
                  refine wp_bipush (pc := 113) (v := (-3)) dX12_ask_113 (by decide) ?_
                  exact wp_iret (pc := 115) dX12_ask_115 rfl ⟨by simp only [f_ask, askOk, decide_true, decide_false, e1, e2, e3, c7, eq_false c20, eq_true c30, eq_false c42, eq_true c48, eq_true c63, c78, eq_true c110, if_true, if_false, Bool.true_eq_false, Bool.false_eq_true, reduceIte, reduceCtorEq, Bool.not_true, Bool.not_false, true_and, and_true, and_false, false_and, or_true, true_or, or_false, false_or, not_true_eq_false, not_false_eq_true] <;> rfl, by simp only [f_ask, askOk, decide_true, decide_false, e1, e2, e3, c7, eq_false c20, eq_true c30, eq_false c42, eq_true c48, eq_true c63, c78, eq_true c110, if_true, if_false, Bool.true_eq_false, Bool.false_eq_true, reduceIte, reduceCtorEq, Bool.not_true, Bool.not_false, true_and, and_true, and_false, false_and, or_true, true_or, or_false, false_or, not_true_eq_false, not_false_eq_true] <;> exact hM, hF⟩
  · skip
    refine wp_bipush (pc := 10) (v := (-2)) dX12_ask_10 (by decide) ?_
    exact wp_iret (pc := 12) dX12_ask_12 rfl ⟨by simp only [f_ask, c7, if_true, if_false, Bool.true_eq_false, Bool.false_eq_true, reduceIte, reduceCtorEq, Bool.not_true, Bool.not_false, true_and, and_true, and_false, false_and, or_true, true_or, or_false, false_or, not_true_eq_false, not_false_eq_true] <;> rfl, by simp only [f_ask, c7, if_true, if_false, Bool.true_eq_false, Bool.false_eq_true, reduceIte, reduceCtorEq, Bool.not_true, Bool.not_false, true_and, and_true, and_false, false_and, or_true, true_or, or_false, false_or, not_true_eq_false, not_false_eq_true] <;> exact hM, hF⟩
theorem ms_renew (w : Int32) (k : Int32) (t : Int32)  {K : Nat} (hK : M.1 2 = nI K) (hK5 : K ≤ 5) {W : Nat} (hW : M.1 6 = nI W) (hW2 : W ≤ 20) {N : Nat} (hT : M.1 11 = nI N) (hT2 : N ≤ 20) {L : Nat} (hL : M.1 35 = nI L) (hL4 : L ≤ 400) : MSp l G x am mX12_renew [.int w, .int k, .int t] M (some (.int (f_renew M w k t).1)) (f_renew M w k t).2 := by
  refine MSp.intro (lv := [_, _, _, _, _]) (by decide) rfl (Nat.le_of_ble_eq_true rfl) (fun h0 h hM hF => ?_)
  have hKx : nx (M.1 2) = K := by rw [hK]; exact nx_nI (by omega)
  have hWx : nx (M.1 6) = W := by rw [hW]; exact nx_nI (by omega)
  have hTx : nx (M.1 11) = N := by rw [hT]; exact nx_nI (by omega)
  have hLx : nx (M.1 35) = L := by rw [hL]; exact nx_nI (by omega)
  refine wp_aload_n (pc := 0) dX12_renew_0 rfl rfl ?_
  refine wp_iload_n (pc := 1) dX12_renew_1 rfl rfl ?_
  refine wp_iload_n (pc := 2) dX12_renew_2 rfl rfl ?_
  refine wp_iload_n (pc := 3) dX12_renew_3 rfl rfl ?_
  refine mp_call (pc := 4) [_, _, _] dX12_renew_4 rfl cv_X12_221_13 rfl ⟨(Nat.le_of_ble_eq_true rfl), (Nat.le_of_ble_eq_true rfl)⟩ (Nat.le_of_ble_eq_true rfl) ⟨rfl, rfl⟩ (ms_areThere l G x am _ _ _ _ (by exact hK) hK5 (by exact hW) hW2 (by exact hT) hT2) hM hF (fun h hM hF => ?_)
  refine wp_ifB_ne (pc := 7) (tgt := 13) dX12_renew_7 (by decide) (fun c7 => ?_) (fun c7 => ?_)
  · obtain ⟨g1, g2, g3⟩ := thr_t c7
    rw [hWx] at g1; rw [hKx] at g2; rw [hTx] at g3
    obtain ⟨wa, hwa, rfl⟩ := isIx_t g1 (by omega)
    obtain ⟨kb, hkb, rfl⟩ := isIx_t g2 (by omega)
    obtain ⟨tc, htc, rfl⟩ := isIx_t g3 (by omega)
    have e1 : nx (nI wa) = wa := nx_nI (by omega)
    have e2 : nx (nI kb) = kb := nx_nI (by omega)
    have e3 : nx (nI tc) = tc := nx_nI (by omega)
    refine wp_bipush (pc := 13) (v := 20) dX12_renew_13 (by decide) ?_
    refine wp_iload_n (pc := 15) dX12_renew_15 rfl rfl ?_
    refine wp_imul (pc := 16) dX12_renew_16 ?_
    refine wp_iload_n (pc := 17) dX12_renew_17 rfl rfl ?_
    refine wp_iadd (pc := 18) dX12_renew_18 ?_
    refine wp_istore (pc := 19) (lv' := [_, _, _, _, _]) dX12_renew_19 (Nat.le_of_ble_eq_true rfl) rfl rfl ?_
    refine wp_aload_n (pc := 21) dX12_renew_21 rfl rfl ?_
    refine wp_get (pc := 22) dX12_renew_22 fl_X12_29_13 hM.1 rfl ?_
    refine wp_iload_n (pc := 25) dX12_renew_25 rfl rfl ?_
    refine wp_zald (pc := 26) (i := wa) dX12_renew_26 (hM.z 10 rfl) ⟨rfl, by omega, by decide⟩ ?_
    refine wp_if_eq (pc := 27) (tgt := 40) dX12_renew_27 (by decide) (fun c27 => ?_) (fun c27 => ?_)
    · skip
      refine wp_bipush (pc := 40) (v := (-3)) dX12_renew_40 (by decide) ?_
      exact wp_iret (pc := 42) dX12_renew_42 rfl ⟨by simp only [f_renew, c7, eq_true c27, if_true, if_false, Bool.true_eq_false, Bool.false_eq_true, reduceIte, reduceCtorEq, Bool.not_true, Bool.not_false, true_and, and_true, and_false, false_and, or_true, true_or, or_false, false_or, not_true_eq_false, not_false_eq_true] <;> first | rfl | (simp only [e1, e2, e3, c7, eq_true c27, if_true, if_false, Bool.true_eq_false, Bool.false_eq_true, reduceIte, reduceCtorEq, Bool.not_true, Bool.not_false, true_and, and_true, and_false, false_and, or_true, true_or, or_false, false_or, not_true_eq_false, not_false_eq_true] <;> rfl), by simp only [f_renew, c7, eq_true c27, if_true, if_false, Bool.true_eq_false, Bool.false_eq_true, reduceIte, reduceCtorEq, Bool.not_true, Bool.not_false, true_and, and_true, and_false, false_and, or_true, true_or, or_false, false_or, not_true_eq_false, not_false_eq_true] <;> first | exact hM | (simp only [e1, e2, e3, c7, eq_true c27, if_true, if_false, Bool.true_eq_false, Bool.false_eq_true, reduceIte, reduceCtorEq, Bool.not_true, Bool.not_false, true_and, and_true, and_false, false_and, or_true, true_or, or_false, false_or, not_true_eq_false, not_false_eq_true] <;> exact hM), hF⟩
    · skip
      refine wp_aload_n (pc := 30) dX12_renew_30 rfl rfl ?_
      refine wp_get (pc := 31) dX12_renew_31 fl_X12_82_13 hM.1 rfl ?_
      refine wp_iload (pc := 34) dX12_renew_34 rfl ?_
      refine wp_zald (pc := 36) (i := ((20 * wa) + tc)) dX12_renew_36 (hM.z 29 rfl) ⟨by simp only [nl1, nl5, nl8, nl20, pk_mul, nI_add], by omega, by decide⟩ ?_
      refine wp_if_ne (pc := 37) (tgt := 43) dX12_renew_37 (by decide) (fun c37 => ?_) (fun c37 => ?_)
      · skip
        refine wp_aload_n (pc := 43) dX12_renew_43 rfl rfl ?_
        refine wp_iconst (pc := 44) (v := 1) dX12_renew_44 (by decide) ?_
        refine wp_iload_n (pc := 45) dX12_renew_45 rfl rfl ?_
        refine wp_iload_n (pc := 46) dX12_renew_46 rfl rfl ?_
        refine wp_iload_n (pc := 47) dX12_renew_47 rfl rfl ?_
        refine wp_aload_n (pc := 48) dX12_renew_48 rfl rfl ?_
        refine wp_get (pc := 49) dX12_renew_49 fl_X12_85_13 hM.1 rfl ?_
        refine wp_iload (pc := 52) dX12_renew_52 rfl ?_
        refine wp_iald (pc := 54) (i := ((20 * wa) + tc)) dX12_renew_54 (hM.i 30 rfl) ⟨by simp only [nl1, nl5, nl8, nl20, pk_mul, nI_add], by omega, by decide⟩ ?_
        refine wp_aload_n (pc := 55) dX12_renew_55 rfl rfl ?_
        refine wp_get (pc := 56) dX12_renew_56 fl_X12_88_13 hM.1 rfl ?_
        refine wp_iload (pc := 59) dX12_renew_59 rfl ?_
        refine wp_iald (pc := 61) (i := ((20 * wa) + tc)) dX12_renew_61 (hM.i 31 rfl) ⟨by simp only [nl1, nl5, nl8, nl20, pk_mul, nI_add], by omega, by decide⟩ ?_
        refine wp_aload_n (pc := 62) dX12_renew_62 rfl rfl ?_
        refine wp_get (pc := 63) dX12_renew_63 fl_X12_94_13 hM.1 rfl ?_
        refine wp_iload (pc := 66) dX12_renew_66 rfl ?_
        refine wp_lald (pc := 68) (i := ((20 * wa) + tc)) dX12_renew_68 (hM.j 33 rfl) ⟨by simp only [nl1, nl5, nl8, nl20, pk_mul, nI_add], by omega, by decide⟩ ?_
        refine mp_call (pc := 69) [_, _, _, _, _, _, _] dX12_renew_69 rfl cv_X12_224_13 rfl ⟨(Nat.le_of_ble_eq_true rfl), (Nat.le_of_ble_eq_true rfl)⟩ (Nat.le_of_ble_eq_true rfl) ⟨rfl, rfl⟩ (ms_marked l G x am _ _ _ _ _ _ _ _ (by exact hL) hL4 (by omega) (by omega)) hM hF (fun h hM hF => ?_)
        exact wp_iret (pc := 72) dX12_renew_72 rfl ⟨by simp only [f_renew, c7, eq_false c27, eq_false c37, if_true, if_false, Bool.true_eq_false, Bool.false_eq_true, reduceIte, reduceCtorEq, Bool.not_true, Bool.not_false, true_and, and_true, and_false, false_and, or_true, true_or, or_false, false_or, not_true_eq_false, not_false_eq_true] <;> first | rfl | (simp only [e1, e2, e3, c7, eq_false c27, eq_false c37, if_true, if_false, Bool.true_eq_false, Bool.false_eq_true, reduceIte, reduceCtorEq, Bool.not_true, Bool.not_false, true_and, and_true, and_false, false_and, or_true, true_or, or_false, false_or, not_true_eq_false, not_false_eq_true] <;> rfl), by simp only [f_renew, c7, eq_false c27, eq_false c37, if_true, if_false, Bool.true_eq_false, Bool.false_eq_true, reduceIte, reduceCtorEq, Bool.not_true, Bool.not_false, true_and, and_true, and_false, false_and, or_true, true_or, or_false, false_or, not_true_eq_false, not_false_eq_true] <;> first | exact hM | (simp only [e1, e2, e3, c7, eq_false c27, eq_false c37, if_true, if_false, Bool.true_eq_false, Bool.false_eq_true, reduceIte, reduceCtorEq, Bool.not_true, Bool.not_false, true_and, and_true, and_false, false_and, or_true, true_or, or_false, false_or, not_true_eq_false, not_false_eq_true] <;> exact hM), hF⟩
      · skip
        refine wp_bipush (pc := 40) (v := (-3)) dX12_renew_40 (by decide) ?_
        exact wp_iret (pc := 42) dX12_renew_42 rfl ⟨by simp only [f_renew, c7, eq_false c27, eq_true c37, if_true, if_false, Bool.true_eq_false, Bool.false_eq_true, reduceIte, reduceCtorEq, Bool.not_true, Bool.not_false, true_and, and_true, and_false, false_and, or_true, true_or, or_false, false_or, not_true_eq_false, not_false_eq_true] <;> first | rfl | (simp only [e1, e2, e3, c7, eq_false c27, eq_true c37, if_true, if_false, Bool.true_eq_false, Bool.false_eq_true, reduceIte, reduceCtorEq, Bool.not_true, Bool.not_false, true_and, and_true, and_false, false_and, or_true, true_or, or_false, false_or, not_true_eq_false, not_false_eq_true] <;> rfl), by simp only [f_renew, c7, eq_false c27, eq_true c37, if_true, if_false, Bool.true_eq_false, Bool.false_eq_true, reduceIte, reduceCtorEq, Bool.not_true, Bool.not_false, true_and, and_true, and_false, false_and, or_true, true_or, or_false, false_or, not_true_eq_false, not_false_eq_true] <;> first | exact hM | (simp only [e1, e2, e3, c7, eq_false c27, eq_true c37, if_true, if_false, Bool.true_eq_false, Bool.false_eq_true, reduceIte, reduceCtorEq, Bool.not_true, Bool.not_false, true_and, and_true, and_false, false_and, or_true, true_or, or_false, false_or, not_true_eq_false, not_false_eq_true] <;> exact hM), hF⟩
  · skip
    refine wp_bipush (pc := 10) (v := (-2)) dX12_renew_10 (by decide) ?_
    exact wp_iret (pc := 12) dX12_renew_12 rfl ⟨by simp only [f_renew, c7, if_true, if_false, Bool.true_eq_false, Bool.false_eq_true, reduceIte, reduceCtorEq, Bool.not_true, Bool.not_false, true_and, and_true, and_false, false_and, or_true, true_or, or_false, false_or, not_true_eq_false, not_false_eq_true] <;> first | rfl | (simp only [e1, e2, e3, c7, if_true, if_false, Bool.true_eq_false, Bool.false_eq_true, reduceIte, reduceCtorEq, Bool.not_true, Bool.not_false, true_and, and_true, and_false, false_and, or_true, true_or, or_false, false_or, not_true_eq_false, not_false_eq_true] <;> rfl), by simp only [f_renew, c7, if_true, if_false, Bool.true_eq_false, Bool.false_eq_true, reduceIte, reduceCtorEq, Bool.not_true, Bool.not_false, true_and, and_true, and_false, false_and, or_true, true_or, or_false, false_or, not_true_eq_false, not_false_eq_true] <;> first | exact hM | (simp only [e1, e2, e3, c7, if_true, if_false, Bool.true_eq_false, Bool.false_eq_true, reduceIte, reduceCtorEq, Bool.not_true, Bool.not_false, true_and, and_true, and_false, false_and, or_true, true_or, or_false, false_or, not_true_eq_false, not_false_eq_true] <;> exact hM), hF⟩
theorem ms_rise (w : Int32) (k : Int32) (t : Int32)  {K : Nat} (hK : M.1 2 = nI K) (hK5 : K ≤ 5) {W : Nat} (hW : M.1 6 = nI W) (hW2 : W ≤ 20) {N : Nat} (hT : M.1 11 = nI N) (hT2 : N ≤ 20) {L : Nat} (hL : M.1 35 = nI L) (hL4 : L ≤ 400) : MSp l G x am mX12_rise [.int w, .int k, .int t] M (some (.int (f_rise M w k t).1)) (f_rise M w k t).2 := by
  refine MSp.intro (lv := [_, _, _, _, _]) (by decide) rfl (Nat.le_of_ble_eq_true rfl) (fun h0 h hM hF => ?_)
  have hKx : nx (M.1 2) = K := by rw [hK]; exact nx_nI (by omega)
  have hWx : nx (M.1 6) = W := by rw [hW]; exact nx_nI (by omega)
  have hTx : nx (M.1 11) = N := by rw [hT]; exact nx_nI (by omega)
  have hLx : nx (M.1 35) = L := by rw [hL]; exact nx_nI (by omega)
  refine wp_aload_n (pc := 0) dX12_rise_0 rfl rfl ?_
  refine wp_iload_n (pc := 1) dX12_rise_1 rfl rfl ?_
  refine wp_iload_n (pc := 2) dX12_rise_2 rfl rfl ?_
  refine wp_iload_n (pc := 3) dX12_rise_3 rfl rfl ?_
  refine mp_call (pc := 4) [_, _, _] dX12_rise_4 rfl cv_X12_221_13 rfl ⟨(Nat.le_of_ble_eq_true rfl), (Nat.le_of_ble_eq_true rfl)⟩ (Nat.le_of_ble_eq_true rfl) ⟨rfl, rfl⟩ (ms_areThere l G x am _ _ _ _ (by exact hK) hK5 (by exact hW) hW2 (by exact hT) hT2) hM hF (fun h hM hF => ?_)
  refine wp_ifB_eq (pc := 7) (tgt := 20) dX12_rise_7 (by decide) (fun c7 => ?_) (fun c7 => ?_)
  · skip
    refine wp_bipush (pc := 20) (v := (-2)) dX12_rise_20 (by decide) ?_
    exact wp_iret (pc := 22) dX12_rise_22 rfl ⟨by simp only [f_rise, c7, if_true, if_false, Bool.true_eq_false, Bool.false_eq_true, reduceIte, reduceCtorEq, Bool.not_true, Bool.not_false, true_and, and_true, and_false, false_and, or_true, true_or, or_false, false_or, not_true_eq_false, not_false_eq_true] <;> first | rfl | (simp only [e1, e2, e3, c7, if_true, if_false, Bool.true_eq_false, Bool.false_eq_true, reduceIte, reduceCtorEq, Bool.not_true, Bool.not_false, true_and, and_true, and_false, false_and, or_true, true_or, or_false, false_or, not_true_eq_false, not_false_eq_true] <;> rfl), by simp only [f_rise, c7, if_true, if_false, Bool.true_eq_false, Bool.false_eq_true, reduceIte, reduceCtorEq, Bool.not_true, Bool.not_false, true_and, and_true, and_false, false_and, or_true, true_or, or_false, false_or, not_true_eq_false, not_false_eq_true] <;> first | exact hM | (simp only [e1, e2, e3, c7, if_true, if_false, Bool.true_eq_false, Bool.false_eq_true, reduceIte, reduceCtorEq, Bool.not_true, Bool.not_false, true_and, and_true, and_false, false_and, or_true, true_or, or_false, false_or, not_true_eq_false, not_false_eq_true] <;> exact hM), hF⟩
  · obtain ⟨g1, g2, g3⟩ := thr_t c7
    rw [hWx] at g1; rw [hKx] at g2; rw [hTx] at g3
    obtain ⟨wa, hwa, rfl⟩ := isIx_t g1 (by omega)
    obtain ⟨kb, hkb, rfl⟩ := isIx_t g2 (by omega)
    obtain ⟨tc, htc, rfl⟩ := isIx_t g3 (by omega)
    have e1 : nx (nI wa) = wa := nx_nI (by omega)
    have e2 : nx (nI kb) = kb := nx_nI (by omega)
    have e3 : nx (nI tc) = tc := nx_nI (by omega)
    refine wp_aload_n (pc := 10) dX12_rise_10 rfl rfl ?_
    refine wp_get (pc := 11) dX12_rise_11 fl_X12_32_13 hM.1 rfl ?_
    refine wp_iload_n (pc := 14) dX12_rise_14 rfl rfl ?_
    refine wp_iald (pc := 15) (i := tc) dX12_rise_15 (hM.i 12 rfl) ⟨rfl, by omega, by decide⟩ ?_
    refine wp_iconst (pc := 16) (v := 3) dX12_rise_16 (by decide) ?_
    refine wp_icmp_eq (pc := 17) (tgt := 23) dX12_rise_17 (by decide) (fun c17 => ?_) (fun c17 => ?_)
    · skip
      refine wp_bipush (pc := 23) (v := 20) dX12_rise_23 (by decide) ?_
      refine wp_iload_n (pc := 25) dX12_rise_25 rfl rfl ?_
      refine wp_imul (pc := 26) dX12_rise_26 ?_
      refine wp_iload_n (pc := 27) dX12_rise_27 rfl rfl ?_
      refine wp_iadd (pc := 28) dX12_rise_28 ?_
      refine wp_istore (pc := 29) (lv' := [_, _, _, _, _]) dX12_rise_29 (Nat.le_of_ble_eq_true rfl) rfl rfl ?_
      refine wp_aload_n (pc := 31) dX12_rise_31 rfl rfl ?_
      refine wp_get (pc := 32) dX12_rise_32 fl_X12_29_13 hM.1 rfl ?_
      refine wp_iload_n (pc := 35) dX12_rise_35 rfl rfl ?_
      refine wp_zald (pc := 36) (i := wa) dX12_rise_36 (hM.z 10 rfl) ⟨rfl, by omega, by decide⟩ ?_
      refine wp_if_eq (pc := 37) (tgt := 50) dX12_rise_37 (by decide) (fun c37 => ?_) (fun c37 => ?_)
      · skip
        refine wp_bipush (pc := 50) (v := (-3)) dX12_rise_50 (by decide) ?_
        exact wp_iret (pc := 52) dX12_rise_52 rfl ⟨by simp only [f_rise, c7, eq_true c17, eq_true c37, if_true, if_false, Bool.true_eq_false, Bool.false_eq_true, reduceIte, reduceCtorEq, Bool.not_true, Bool.not_false, true_and, and_true, and_false, false_and, or_true, true_or, or_false, false_or, not_true_eq_false, not_false_eq_true] <;> first | rfl | (simp only [e1, e2, e3, c7, eq_true c17, eq_true c37, if_true, if_false, Bool.true_eq_false, Bool.false_eq_true, reduceIte, reduceCtorEq, Bool.not_true, Bool.not_false, true_and, and_true, and_false, false_and, or_true, true_or, or_false, false_or, not_true_eq_false, not_false_eq_true] <;> rfl), by simp only [f_rise, c7, eq_true c17, eq_true c37, if_true, if_false, Bool.true_eq_false, Bool.false_eq_true, reduceIte, reduceCtorEq, Bool.not_true, Bool.not_false, true_and, and_true, and_false, false_and, or_true, true_or, or_false, false_or, not_true_eq_false, not_false_eq_true] <;> first | exact hM | (simp only [e1, e2, e3, c7, eq_true c17, eq_true c37, if_true, if_false, Bool.true_eq_false, Bool.false_eq_true, reduceIte, reduceCtorEq, Bool.not_true, Bool.not_false, true_and, and_true, and_false, false_and, or_true, true_or, or_false, false_or, not_true_eq_false, not_false_eq_true] <;> exact hM), hF⟩
      · skip
        refine wp_aload_n (pc := 40) dX12_rise_40 rfl rfl ?_
        refine wp_get (pc := 41) dX12_rise_41 fl_X12_82_13 hM.1 rfl ?_
        refine wp_iload (pc := 44) dX12_rise_44 rfl ?_
        refine wp_zald (pc := 46) (i := ((20 * wa) + tc)) dX12_rise_46 (hM.z 29 rfl) ⟨by simp only [nl1, nl5, nl8, nl20, pk_mul, nI_add], by omega, by decide⟩ ?_
        refine wp_if_ne (pc := 47) (tgt := 53) dX12_rise_47 (by decide) (fun c47 => ?_) (fun c47 => ?_)
        · skip
          refine wp_aload_n (pc := 53) dX12_rise_53 rfl rfl ?_
          refine wp_iconst (pc := 54) (v := 3) dX12_rise_54 (by decide) ?_
          refine wp_iload_n (pc := 55) dX12_rise_55 rfl rfl ?_
          refine wp_iload_n (pc := 56) dX12_rise_56 rfl rfl ?_
          refine wp_iload_n (pc := 57) dX12_rise_57 rfl rfl ?_
          refine wp_iconst (pc := 58) (v := 0) dX12_rise_58 (by decide) ?_
          refine wp_iconst (pc := 59) (v := 0) dX12_rise_59 (by decide) ?_
          refine wp_aload_n (pc := 60) dX12_rise_60 rfl rfl ?_
          refine wp_get (pc := 61) dX12_rise_61 fl_X12_94_13 hM.1 rfl ?_
          refine wp_iload (pc := 64) dX12_rise_64 rfl ?_
          refine wp_lald (pc := 66) (i := ((20 * wa) + tc)) dX12_rise_66 (hM.j 33 rfl) ⟨by simp only [nl1, nl5, nl8, nl20, pk_mul, nI_add], by omega, by decide⟩ ?_
          refine mp_call (pc := 67) [_, _, _, _, _, _, _] dX12_rise_67 rfl cv_X12_224_13 rfl ⟨(Nat.le_of_ble_eq_true rfl), (Nat.le_of_ble_eq_true rfl)⟩ (Nat.le_of_ble_eq_true rfl) ⟨rfl, rfl⟩ (ms_marked l G x am _ _ _ _ _ _ _ _ (by exact hL) hL4 (by omega) (by omega)) hM hF (fun h hM hF => ?_)
          exact wp_iret (pc := 70) dX12_rise_70 rfl ⟨by simp only [f_rise, c7, eq_true c17, eq_false c37, eq_false c47, if_true, if_false, Bool.true_eq_false, Bool.false_eq_true, reduceIte, reduceCtorEq, Bool.not_true, Bool.not_false, true_and, and_true, and_false, false_and, or_true, true_or, or_false, false_or, not_true_eq_false, not_false_eq_true] <;> first | rfl | (simp only [e1, e2, e3, c7, eq_true c17, eq_false c37, eq_false c47, if_true, if_false, Bool.true_eq_false, Bool.false_eq_true, reduceIte, reduceCtorEq, Bool.not_true, Bool.not_false, true_and, and_true, and_false, false_and, or_true, true_or, or_false, false_or, not_true_eq_false, not_false_eq_true] <;> rfl), by simp only [f_rise, c7, eq_true c17, eq_false c37, eq_false c47, if_true, if_false, Bool.true_eq_false, Bool.false_eq_true, reduceIte, reduceCtorEq, Bool.not_true, Bool.not_false, true_and, and_true, and_false, false_and, or_true, true_or, or_false, false_or, not_true_eq_false, not_false_eq_true] <;> first | exact hM | (simp only [e1, e2, e3, c7, eq_true c17, eq_false c37, eq_false c47, if_true, if_false, Bool.true_eq_false, Bool.false_eq_true, reduceIte, reduceCtorEq, Bool.not_true, Bool.not_false, true_and, and_true, and_false, false_and, or_true, true_or, or_false, false_or, not_true_eq_false, not_false_eq_true] <;> exact hM), hF⟩
        · skip
          refine wp_bipush (pc := 50) (v := (-3)) dX12_rise_50 (by decide) ?_
          exact wp_iret (pc := 52) dX12_rise_52 rfl ⟨by simp only [f_rise, c7, eq_true c17, eq_false c37, eq_true c47, if_true, if_false, Bool.true_eq_false, Bool.false_eq_true, reduceIte, reduceCtorEq, Bool.not_true, Bool.not_false, true_and, and_true, and_false, false_and, or_true, true_or, or_false, false_or, not_true_eq_false, not_false_eq_true] <;> first | rfl | (simp only [e1, e2, e3, c7, eq_true c17, eq_false c37, eq_true c47, if_true, if_false, Bool.true_eq_false, Bool.false_eq_true, reduceIte, reduceCtorEq, Bool.not_true, Bool.not_false, true_and, and_true, and_false, false_and, or_true, true_or, or_false, false_or, not_true_eq_false, not_false_eq_true] <;> rfl), by simp only [f_rise, c7, eq_true c17, eq_false c37, eq_true c47, if_true, if_false, Bool.true_eq_false, Bool.false_eq_true, reduceIte, reduceCtorEq, Bool.not_true, Bool.not_false, true_and, and_true, and_false, false_and, or_true, true_or, or_false, false_or, not_true_eq_false, not_false_eq_true] <;> first | exact hM | (simp only [e1, e2, e3, c7, eq_true c17, eq_false c37, eq_true c47, if_true, if_false, Bool.true_eq_false, Bool.false_eq_true, reduceIte, reduceCtorEq, Bool.not_true, Bool.not_false, true_and, and_true, and_false, false_and, or_true, true_or, or_false, false_or, not_true_eq_false, not_false_eq_true] <;> exact hM), hF⟩
    · skip
      refine wp_bipush (pc := 20) (v := (-2)) dX12_rise_20 (by decide) ?_
      exact wp_iret (pc := 22) dX12_rise_22 rfl ⟨by simp only [f_rise, c7, eq_false c17, if_true, if_false, Bool.true_eq_false, Bool.false_eq_true, reduceIte, reduceCtorEq, Bool.not_true, Bool.not_false, true_and, and_true, and_false, false_and, or_true, true_or, or_false, false_or, not_true_eq_false, not_false_eq_true] <;> first | rfl | (simp only [e1, e2, e3, c7, eq_false c17, if_true, if_false, Bool.true_eq_false, Bool.false_eq_true, reduceIte, reduceCtorEq, Bool.not_true, Bool.not_false, true_and, and_true, and_false, false_and, or_true, true_or, or_false, false_or, not_true_eq_false, not_false_eq_true] <;> rfl), by simp only [f_rise, c7, eq_false c17, if_true, if_false, Bool.true_eq_false, Bool.false_eq_true, reduceIte, reduceCtorEq, Bool.not_true, Bool.not_false, true_and, and_true, and_false, false_and, or_true, true_or, or_false, false_or, not_true_eq_false, not_false_eq_true] <;> first | exact hM | (simp only [e1, e2, e3, c7, eq_false c17, if_true, if_false, Bool.true_eq_false, Bool.false_eq_true, reduceIte, reduceCtorEq, Bool.not_true, Bool.not_false, true_and, and_true, and_false, false_and, or_true, true_or, or_false, false_or, not_true_eq_false, not_false_eq_true] <;> exact hM), hF⟩
theorem ms_end (w : Int32) (k : Int32) (t : Int32)  {K : Nat} (hK : M.1 2 = nI K) (hK5 : K ≤ 5) {W : Nat} (hW : M.1 6 = nI W) (hW2 : W ≤ 20) {N : Nat} (hT : M.1 11 = nI N) (hT2 : N ≤ 20) {L : Nat} (hL : M.1 35 = nI L) (hL4 : L ≤ 400) : MSp l G x am mX12_end [.int w, .int k, .int t] M (some (.int (f_end M w k t).1)) (f_end M w k t).2 := by
  refine MSp.intro (lv := [_, _, _, _, _, _]) (by decide) rfl (Nat.le_of_ble_eq_true rfl) (fun h0 h hM hF => ?_)
  have hKx : nx (M.1 2) = K := by rw [hK]; exact nx_nI (by omega)
  have hWx : nx (M.1 6) = W := by rw [hW]; exact nx_nI (by omega)
  have hTx : nx (M.1 11) = N := by rw [hT]; exact nx_nI (by omega)
  have hLx : nx (M.1 35) = L := by rw [hL]; exact nx_nI (by omega)
  refine wp_aload_n (pc := 0) dX12_end_0 rfl rfl ?_
  refine wp_iload_n (pc := 1) dX12_end_1 rfl rfl ?_
  refine wp_iload_n (pc := 2) dX12_end_2 rfl rfl ?_
  refine wp_iload_n (pc := 3) dX12_end_3 rfl rfl ?_
  refine mp_call (pc := 4) [_, _, _] dX12_end_4 rfl cv_X12_221_13 rfl ⟨(Nat.le_of_ble_eq_true rfl), (Nat.le_of_ble_eq_true rfl)⟩ (Nat.le_of_ble_eq_true rfl) ⟨rfl, rfl⟩ (ms_areThere l G x am _ _ _ _ (by exact hK) hK5 (by exact hW) hW2 (by exact hT) hT2) hM hF (fun h hM hF => ?_)
  refine wp_ifB_ne (pc := 7) (tgt := 13) dX12_end_7 (by decide) (fun c7 => ?_) (fun c7 => ?_)
  · obtain ⟨g1, g2, g3⟩ := thr_t c7
    rw [hWx] at g1; rw [hKx] at g2; rw [hTx] at g3
    obtain ⟨wa, hwa, rfl⟩ := isIx_t g1 (by omega)
    obtain ⟨kb, hkb, rfl⟩ := isIx_t g2 (by omega)
    obtain ⟨tc, htc, rfl⟩ := isIx_t g3 (by omega)
    have e1 : nx (nI wa) = wa := nx_nI (by omega)
    have e2 : nx (nI kb) = kb := nx_nI (by omega)
    have e3 : nx (nI tc) = tc := nx_nI (by omega)
    refine wp_bipush (pc := 13) (v := 20) dX12_end_13 (by decide) ?_
    refine wp_iload_n (pc := 15) dX12_end_15 rfl rfl ?_
    refine wp_imul (pc := 16) dX12_end_16 ?_
    refine wp_iload_n (pc := 17) dX12_end_17 rfl rfl ?_
    refine wp_iadd (pc := 18) dX12_end_18 ?_
    refine wp_istore (pc := 19) (lv' := [_, _, _, _, _, _]) dX12_end_19 (Nat.le_of_ble_eq_true rfl) rfl rfl ?_
    refine wp_aload_n (pc := 21) dX12_end_21 rfl rfl ?_
    refine wp_get (pc := 22) dX12_end_22 fl_X12_29_13 hM.1 rfl ?_
    refine wp_iload_n (pc := 25) dX12_end_25 rfl rfl ?_
    refine wp_zald (pc := 26) (i := wa) dX12_end_26 (hM.z 10 rfl) ⟨rfl, by omega, by decide⟩ ?_
    refine wp_if_eq (pc := 27) (tgt := 40) dX12_end_27 (by decide) (fun c27 => ?_) (fun c27 => ?_)
    · skip
      refine wp_bipush (pc := 40) (v := (-3)) dX12_end_40 (by decide) ?_
      exact wp_iret (pc := 42) dX12_end_42 rfl ⟨by simp only [f_end, c7, eq_true c27, if_true, if_false, Bool.true_eq_false, Bool.false_eq_true, reduceIte, reduceCtorEq, Bool.not_true, Bool.not_false, true_and, and_true, and_false, false_and, or_true, true_or, or_false, false_or, not_true_eq_false, not_false_eq_true] <;> first | rfl | (simp only [e1, e2, e3, hLx, c7, eq_true c27, if_true, if_false, Bool.true_eq_false, Bool.false_eq_true, reduceIte, reduceCtorEq, Bool.not_true, Bool.not_false, true_and, and_true, and_false, false_and, or_true, true_or, or_false, false_or, not_true_eq_false, not_false_eq_true] <;> first | (rw [hL]) | exact congrArg (fun z => some (Value.int z)) hL.symm), by simp only [f_end, c7, eq_true c27, if_true, if_false, Bool.true_eq_false, Bool.false_eq_true, reduceIte, reduceCtorEq, Bool.not_true, Bool.not_false, true_and, and_true, and_false, false_and, or_true, true_or, or_false, false_or, not_true_eq_false, not_false_eq_true] <;> first | exact hM | (simp only [e1, e2, e3, hLx, c7, eq_true c27, if_true, if_false, Bool.true_eq_false, Bool.false_eq_true, reduceIte, reduceCtorEq, Bool.not_true, Bool.not_false, true_and, and_true, and_false, false_and, or_true, true_or, or_false, false_or, not_true_eq_false, not_false_eq_true] <;> exact hM), hF⟩
    · skip
      refine wp_aload_n (pc := 30) dX12_end_30 rfl rfl ?_
      refine wp_get (pc := 31) dX12_end_31 fl_X12_82_13 hM.1 rfl ?_
      refine wp_iload (pc := 34) dX12_end_34 rfl ?_
      refine wp_zald (pc := 36) (i := ((20 * wa) + tc)) dX12_end_36 (hM.z 29 rfl) ⟨by simp only [nl1, nl5, nl8, nl20, pk_mul, nI_add], by omega, by decide⟩ ?_
      refine wp_if_ne (pc := 37) (tgt := 43) dX12_end_37 (by decide) (fun c37 => ?_) (fun c37 => ?_)
      · skip
        refine wp_aload_n (pc := 43) dX12_end_43 rfl rfl ?_
        refine wp_get (pc := 44) dX12_end_44 fl_X12_178_13 hM.1 rfl ?_
        refine wp_sipush (pc := 47) (v := 400) dX12_end_47 (by decide) ?_
        refine wp_icmp_ne (pc := 50) (tgt := 56) dX12_end_50 (by decide) (fun c50 => ?_) (fun c50 => ?_)
        · have hl4 := eq400 hL4 (by rw [← hL]; exact c50)
          refine wp_aload_n (pc := 56) dX12_end_56 rfl rfl ?_
          refine wp_iconst (pc := 57) (v := 2) dX12_end_57 (by decide) ?_
          refine wp_iload_n (pc := 58) dX12_end_58 rfl rfl ?_
          refine wp_iload_n (pc := 59) dX12_end_59 rfl rfl ?_
          refine wp_iload_n (pc := 60) dX12_end_60 rfl rfl ?_
          refine mp_call (pc := 61) [_, _, _, _] dX12_end_61 rfl cv_X12_217_13 rfl ⟨(Nat.le_of_ble_eq_true rfl), (Nat.le_of_ble_eq_true rfl)⟩ (Nat.le_of_ble_eq_true rfl) ⟨rfl, rfl⟩ (ms_send l G x am _ _ _ _ _ (by exact hL) (by omega)) hM hF (fun h hM hF => ?_)
          refine wp_istore (pc := 64) (lv' := [_, _, _, _, _, _]) dX12_end_64 (Nat.le_of_ble_eq_true rfl) rfl rfl ?_
          refine wp_aload_n (pc := 66) dX12_end_66 rfl rfl ?_
          refine wp_get (pc := 67) dX12_end_67 fl_X12_112_13 hM.1 rfl ?_
          refine wp_iload (pc := 70) dX12_end_70 rfl ?_
          refine wp_aload_n (pc := 72) dX12_end_72 rfl rfl ?_
          refine wp_get (pc := 73) dX12_end_73 fl_X12_85_13 hM.1 rfl ?_
          refine wp_iload (pc := 76) dX12_end_76 rfl ?_
          refine wp_iald (pc := 78) (i := ((20 * wa) + tc)) dX12_end_78 (hM.i 30 rfl) ⟨by simp only [nl1, nl5, nl8, nl20, pk_mul, nI_add], by omega, by decide⟩ ?_
          refine mp_iast (pc := 79) (k := 40) (i := L) dX12_end_79 hM hF rfl ⟨rfl, by omega, by decide⟩ (fun h hM hF => ?_)
          refine wp_aload_n (pc := 80) dX12_end_80 rfl rfl ?_
          refine wp_get (pc := 81) dX12_end_81 fl_X12_115_13 hM.1 rfl ?_
          refine wp_iload (pc := 84) dX12_end_84 rfl ?_
          refine wp_aload_n (pc := 86) dX12_end_86 rfl rfl ?_
          refine wp_get (pc := 87) dX12_end_87 fl_X12_88_13 hM.1 rfl ?_
          refine wp_iload (pc := 90) dX12_end_90 rfl ?_
          refine wp_iald (pc := 92) (i := ((20 * wa) + tc)) dX12_end_92 (hM.i 31 rfl) ⟨by simp only [nl1, nl5, nl8, nl20, pk_mul, nI_add], by omega, by decide⟩ ?_
          refine mp_iast (pc := 93) (k := 41) (i := L) dX12_end_93 hM hF rfl ⟨rfl, by omega, by decide⟩ (fun h hM hF => ?_)
          refine wp_aload_n (pc := 94) dX12_end_94 rfl rfl ?_
          refine wp_get (pc := 95) dX12_end_95 fl_X12_124_13 hM.1 rfl ?_
          refine wp_iload (pc := 98) dX12_end_98 rfl ?_
          refine wp_aload_n (pc := 100) dX12_end_100 rfl rfl ?_
          refine wp_get (pc := 101) dX12_end_101 fl_X12_94_13 hM.1 rfl ?_
          refine wp_iload (pc := 104) dX12_end_104 rfl ?_
          refine wp_lald (pc := 106) (i := ((20 * wa) + tc)) dX12_end_106 (hM.j 33 rfl) ⟨by simp only [nl1, nl5, nl8, nl20, pk_mul, nI_add], by omega, by decide⟩ ?_
          refine mp_last (pc := 107) (k := 44) (i := L) dX12_end_107 hM hF rfl ⟨rfl, by omega, by decide⟩ (fun h hM hF => ?_)
          refine wp_aload_n (pc := 108) dX12_end_108 rfl rfl ?_
          refine wp_get (pc := 109) dX12_end_109 fl_X12_82_13 hM.1 rfl ?_
          refine wp_iload (pc := 112) dX12_end_112 rfl ?_
          refine wp_iconst (pc := 114) (v := 0) dX12_end_114 (by decide) ?_
          refine mp_zast (pc := 115) (k := 29) (i := ((20 * wa) + tc)) dX12_end_115 hM hF rfl ⟨by simp only [nl1, nl5, nl8, nl20, pk_mul, nI_add], by omega, by decide⟩ (by decide) (fun h hM hF => ?_)
          refine wp_aload_n (pc := 116) dX12_end_116 rfl rfl ?_
          refine wp_get (pc := 117) dX12_end_117 fl_X12_91_13 hM.1 rfl ?_
          refine wp_iload (pc := 120) dX12_end_120 rfl ?_
          refine wp_iconst (pc := 122) (v := 0) dX12_end_122 (by decide) ?_
          refine mp_iast (pc := 123) (k := 32) (i := ((20 * wa) + tc)) dX12_end_123 hM hF rfl ⟨by simp only [nl1, nl5, nl8, nl20, pk_mul, nI_add], by omega, by decide⟩ (fun h hM hF => ?_)
          refine wp_iload (pc := 124) dX12_end_124 rfl ?_
          exact wp_iret (pc := 126) dX12_end_126 rfl ⟨by simp only [f_end, c7, eq_false c27, eq_false c37, eq_false c50, if_true, if_false, Bool.true_eq_false, Bool.false_eq_true, reduceIte, reduceCtorEq, Bool.not_true, Bool.not_false, true_and, and_true, and_false, false_and, or_true, true_or, or_false, false_or, not_true_eq_false, not_false_eq_true] <;> first | rfl | (simp only [e1, e2, e3, hLx, c7, eq_false c27, eq_false c37, eq_false c50, if_true, if_false, Bool.true_eq_false, Bool.false_eq_true, reduceIte, reduceCtorEq, Bool.not_true, Bool.not_false, true_and, and_true, and_false, false_and, or_true, true_or, or_false, false_or, not_true_eq_false, not_false_eq_true] <;> first | (rw [hL]) | exact congrArg (fun z => some (Value.int z)) hL.symm), by simp only [f_end, c7, eq_false c27, eq_false c37, eq_false c50, if_true, if_false, Bool.true_eq_false, Bool.false_eq_true, reduceIte, reduceCtorEq, Bool.not_true, Bool.not_false, true_and, and_true, and_false, false_and, or_true, true_or, or_false, false_or, not_true_eq_false, not_false_eq_true] <;> first | exact hM | (simp only [e1, e2, e3, hLx, c7, eq_false c27, eq_false c37, eq_false c50, if_true, if_false, Bool.true_eq_false, Bool.false_eq_true, reduceIte, reduceCtorEq, Bool.not_true, Bool.not_false, true_and, and_true, and_false, false_and, or_true, true_or, or_false, false_or, not_true_eq_false, not_false_eq_true] <;> exact hM), hF⟩
        · skip
          refine wp_bipush (pc := 53) (v := (-4)) dX12_end_53 (by decide) ?_
          exact wp_iret (pc := 55) dX12_end_55 rfl ⟨by simp only [f_end, c7, eq_false c27, eq_false c37, eq_true c50, if_true, if_false, Bool.true_eq_false, Bool.false_eq_true, reduceIte, reduceCtorEq, Bool.not_true, Bool.not_false, true_and, and_true, and_false, false_and, or_true, true_or, or_false, false_or, not_true_eq_false, not_false_eq_true] <;> first | rfl | (simp only [e1, e2, e3, hLx, c7, eq_false c27, eq_false c37, eq_true c50, if_true, if_false, Bool.true_eq_false, Bool.false_eq_true, reduceIte, reduceCtorEq, Bool.not_true, Bool.not_false, true_and, and_true, and_false, false_and, or_true, true_or, or_false, false_or, not_true_eq_false, not_false_eq_true] <;> first | (rw [hL]) | exact congrArg (fun z => some (Value.int z)) hL.symm), by simp only [f_end, c7, eq_false c27, eq_false c37, eq_true c50, if_true, if_false, Bool.true_eq_false, Bool.false_eq_true, reduceIte, reduceCtorEq, Bool.not_true, Bool.not_false, true_and, and_true, and_false, false_and, or_true, true_or, or_false, false_or, not_true_eq_false, not_false_eq_true] <;> first | exact hM | (simp only [e1, e2, e3, hLx, c7, eq_false c27, eq_false c37, eq_true c50, if_true, if_false, Bool.true_eq_false, Bool.false_eq_true, reduceIte, reduceCtorEq, Bool.not_true, Bool.not_false, true_and, and_true, and_false, false_and, or_true, true_or, or_false, false_or, not_true_eq_false, not_false_eq_true] <;> exact hM), hF⟩
      · skip
        refine wp_bipush (pc := 40) (v := (-3)) dX12_end_40 (by decide) ?_
        exact wp_iret (pc := 42) dX12_end_42 rfl ⟨by simp only [f_end, c7, eq_false c27, eq_true c37, if_true, if_false, Bool.true_eq_false, Bool.false_eq_true, reduceIte, reduceCtorEq, Bool.not_true, Bool.not_false, true_and, and_true, and_false, false_and, or_true, true_or, or_false, false_or, not_true_eq_false, not_false_eq_true] <;> first | rfl | (simp only [e1, e2, e3, hLx, c7, eq_false c27, eq_true c37, if_true, if_false, Bool.true_eq_false, Bool.false_eq_true, reduceIte, reduceCtorEq, Bool.not_true, Bool.not_false, true_and, and_true, and_false, false_and, or_true, true_or, or_false, false_or, not_true_eq_false, not_false_eq_true] <;> first | (rw [hL]) | exact congrArg (fun z => some (Value.int z)) hL.symm), by simp only [f_end, c7, eq_false c27, eq_true c37, if_true, if_false, Bool.true_eq_false, Bool.false_eq_true, reduceIte, reduceCtorEq, Bool.not_true, Bool.not_false, true_and, and_true, and_false, false_and, or_true, true_or, or_false, false_or, not_true_eq_false, not_false_eq_true] <;> first | exact hM | (simp only [e1, e2, e3, hLx, c7, eq_false c27, eq_true c37, if_true, if_false, Bool.true_eq_false, Bool.false_eq_true, reduceIte, reduceCtorEq, Bool.not_true, Bool.not_false, true_and, and_true, and_false, false_and, or_true, true_or, or_false, false_or, not_true_eq_false, not_false_eq_true] <;> exact hM), hF⟩
  · skip
    refine wp_bipush (pc := 10) (v := (-2)) dX12_end_10 (by decide) ?_
    exact wp_iret (pc := 12) dX12_end_12 rfl ⟨by simp only [f_end, c7, if_true, if_false, Bool.true_eq_false, Bool.false_eq_true, reduceIte, reduceCtorEq, Bool.not_true, Bool.not_false, true_and, and_true, and_false, false_and, or_true, true_or, or_false, false_or, not_true_eq_false, not_false_eq_true] <;> first | rfl | (simp only [e1, e2, e3, hLx, c7, if_true, if_false, Bool.true_eq_false, Bool.false_eq_true, reduceIte, reduceCtorEq, Bool.not_true, Bool.not_false, true_and, and_true, and_false, false_and, or_true, true_or, or_false, false_or, not_true_eq_false, not_false_eq_true] <;> first | (rw [hL]) | exact congrArg (fun z => some (Value.int z)) hL.symm), by simp only [f_end, c7, if_true, if_false, Bool.true_eq_false, Bool.false_eq_true, reduceIte, reduceCtorEq, Bool.not_true, Bool.not_false, true_and, and_true, and_false, false_and, or_true, true_or, or_false, false_or, not_true_eq_false, not_false_eq_true] <;> first | exact hM | (simp only [e1, e2, e3, hLx, c7, if_true, if_false, Bool.true_eq_false, Bool.false_eq_true, reduceIte, reduceCtorEq, Bool.not_true, Bool.not_false, true_and, and_true, and_false, false_and, or_true, true_or, or_false, false_or, not_true_eq_false, not_false_eq_true] <;> exact hM), hF⟩
theorem ms_lose (v : Int32)  {L : Nat} (hL : M.1 35 = nI L) (hL4 : L ≤ 400) : MSp l G x am mX12_lose [.int v] M (some (.int (f_lose M v).1)) (f_lose M v).2 := by
  refine MSp.intro (lv := [_, _]) (by decide) rfl (Nat.le_of_ble_eq_true rfl) (fun h0 h hM hF => ?_)
  have hLx : nx (M.1 35) = L := by rw [hL]; exact nx_nI (by omega)
  refine wp_aload_n (pc := 0) dX12_lose_0 rfl rfl ?_
  refine wp_iload_n (pc := 1) dX12_lose_1 rfl rfl ?_
  refine mp_call (pc := 2) [_] dX12_lose_2 rfl cv_X12_228_13 rfl ⟨(Nat.le_of_ble_eq_true rfl), (Nat.le_of_ble_eq_true rfl)⟩ (Nat.le_of_ble_eq_true rfl) ⟨rfl, rfl⟩ (ms_isLetter l G x am _ _ (by exact hL) hL4) hM hF (fun h hM hF => ?_)
  refine wp_ifB_ne (pc := 5) (tgt := 11) dX12_lose_5 (by decide) (fun c5 => ?_) (fun c5 => ?_)
  · obtain ⟨j, hj, rfl⟩ := isIx_t c5 (by omega)
    have e1 : nx (nI j) = j := nx_nI (by omega)
    refine wp_aload_n (pc := 11) dX12_lose_11 rfl rfl ?_
    refine wp_get (pc := 12) dX12_lose_12 fl_X12_118_13 hM.1 rfl ?_
    refine wp_iload_n (pc := 15) dX12_lose_15 rfl rfl ?_
    refine wp_iald (pc := 16) (i := j) dX12_lose_16 (hM.i 42 rfl) ⟨rfl, by omega, by decide⟩ ?_
    refine wp_if_eq (pc := 17) (tgt := 23) dX12_lose_17 (by decide) (fun c17 => ?_) (fun c17 => ?_)
    · skip
      refine wp_aload_n (pc := 23) dX12_lose_23 rfl rfl ?_
      refine wp_get (pc := 24) dX12_lose_24 fl_X12_118_13 hM.1 rfl ?_
      refine wp_iload_n (pc := 27) dX12_lose_27 rfl rfl ?_
      refine wp_iconst (pc := 28) (v := 2) dX12_lose_28 (by decide) ?_
      refine mp_iast (pc := 29) (k := 42) (i := j) dX12_lose_29 hM hF rfl ⟨rfl, by omega, by decide⟩ (fun h hM hF => ?_)
      refine wp_iconst (pc := 30) (v := 1) dX12_lose_30 (by decide) ?_
      exact wp_iret (pc := 31) dX12_lose_31 rfl ⟨by simp only [f_lose, hLx, c5, eq_true c17, if_true, if_false, Bool.true_eq_false, Bool.false_eq_true, reduceIte, reduceCtorEq, Bool.not_true, Bool.not_false, true_and, and_true, and_false, false_and, or_true, true_or, or_false, false_or, not_true_eq_false, not_false_eq_true] <;> first | rfl | (rw [hL]) | (simp only [e1, c5, eq_true c17, if_true, if_false, Bool.true_eq_false, Bool.false_eq_true, reduceIte, reduceCtorEq, Bool.not_true, Bool.not_false, true_and, and_true, and_false, false_and, or_true, true_or, or_false, false_or, not_true_eq_false, not_false_eq_true] <;> first | rfl | (rw [hL])), by simp only [f_lose, hLx, c5, eq_true c17, if_true, if_false, Bool.true_eq_false, Bool.false_eq_true, reduceIte, reduceCtorEq, Bool.not_true, Bool.not_false, true_and, and_true, and_false, false_and, or_true, true_or, or_false, false_or, not_true_eq_false, not_false_eq_true] <;> first | exact hM | (simp only [e1, c5, eq_true c17, if_true, if_false, Bool.true_eq_false, Bool.false_eq_true, reduceIte, reduceCtorEq, Bool.not_true, Bool.not_false, true_and, and_true, and_false, false_and, or_true, true_or, or_false, false_or, not_true_eq_false, not_false_eq_true] <;> exact hM), hF⟩
    · skip
      refine wp_bipush (pc := 20) (v := (-3)) dX12_lose_20 (by decide) ?_
      exact wp_iret (pc := 22) dX12_lose_22 rfl ⟨by simp only [f_lose, hLx, c5, eq_false c17, if_true, if_false, Bool.true_eq_false, Bool.false_eq_true, reduceIte, reduceCtorEq, Bool.not_true, Bool.not_false, true_and, and_true, and_false, false_and, or_true, true_or, or_false, false_or, not_true_eq_false, not_false_eq_true] <;> first | rfl | (rw [hL]) | (simp only [e1, c5, eq_false c17, if_true, if_false, Bool.true_eq_false, Bool.false_eq_true, reduceIte, reduceCtorEq, Bool.not_true, Bool.not_false, true_and, and_true, and_false, false_and, or_true, true_or, or_false, false_or, not_true_eq_false, not_false_eq_true] <;> first | rfl | (rw [hL])), by simp only [f_lose, hLx, c5, eq_false c17, if_true, if_false, Bool.true_eq_false, Bool.false_eq_true, reduceIte, reduceCtorEq, Bool.not_true, Bool.not_false, true_and, and_true, and_false, false_and, or_true, true_or, or_false, false_or, not_true_eq_false, not_false_eq_true] <;> first | exact hM | (simp only [e1, c5, eq_false c17, if_true, if_false, Bool.true_eq_false, Bool.false_eq_true, reduceIte, reduceCtorEq, Bool.not_true, Bool.not_false, true_and, and_true, and_false, false_and, or_true, true_or, or_false, false_or, not_true_eq_false, not_false_eq_true] <;> exact hM), hF⟩
  · skip
    refine wp_bipush (pc := 8) (v := (-2)) dX12_lose_8 (by decide) ?_
    exact wp_iret (pc := 10) dX12_lose_10 rfl ⟨by simp only [f_lose, hLx, c5, if_true, if_false, Bool.true_eq_false, Bool.false_eq_true, reduceIte, reduceCtorEq, Bool.not_true, Bool.not_false, true_and, and_true, and_false, false_and, or_true, true_or, or_false, false_or, not_true_eq_false, not_false_eq_true] <;> first | rfl | (rw [hL]) | (simp only [e1, c5, if_true, if_false, Bool.true_eq_false, Bool.false_eq_true, reduceIte, reduceCtorEq, Bool.not_true, Bool.not_false, true_and, and_true, and_false, false_and, or_true, true_or, or_false, false_or, not_true_eq_false, not_false_eq_true] <;> first | rfl | (rw [hL])), by simp only [f_lose, hLx, c5, if_true, if_false, Bool.true_eq_false, Bool.false_eq_true, reduceIte, reduceCtorEq, Bool.not_true, Bool.not_false, true_and, and_true, and_false, false_and, or_true, true_or, or_false, false_or, not_true_eq_false, not_false_eq_true] <;> first | exact hM | (simp only [e1, c5, if_true, if_false, Bool.true_eq_false, Bool.false_eq_true, reduceIte, reduceCtorEq, Bool.not_true, Bool.not_false, true_and, and_true, and_false, false_and, or_true, true_or, or_false, false_or, not_true_eq_false, not_false_eq_true] <;> exact hM), hF⟩
theorem ms_twice (v : Int32)  {L : Nat} (hL : M.1 35 = nI L) (hL4 : L ≤ 400) : MSp l G x am mX12_twice [.int v] M (some (.int (f_twice M v).1)) (f_twice M v).2 := by
  refine MSp.intro (lv := [_, _, _]) (by decide) rfl (Nat.le_of_ble_eq_true rfl) (fun h0 h hM hF => ?_)
  have hLx : nx (M.1 35) = L := by rw [hL]; exact nx_nI (by omega)
  refine wp_aload_n (pc := 0) dX12_twice_0 rfl rfl ?_
  refine wp_iload_n (pc := 1) dX12_twice_1 rfl rfl ?_
  refine mp_call (pc := 2) [_] dX12_twice_2 rfl cv_X12_228_13 rfl ⟨(Nat.le_of_ble_eq_true rfl), (Nat.le_of_ble_eq_true rfl)⟩ (Nat.le_of_ble_eq_true rfl) ⟨rfl, rfl⟩ (ms_isLetter l G x am _ _ (by exact hL) hL4) hM hF (fun h hM hF => ?_)
  refine wp_ifB_ne (pc := 5) (tgt := 11) dX12_twice_5 (by decide) (fun c5 => ?_) (fun c5 => ?_)
  · obtain ⟨j, hj, rfl⟩ := isIx_t c5 (by omega)
    have e1 : nx (nI j) = j := nx_nI (by omega)
    refine wp_aload_n (pc := 11) dX12_twice_11 rfl rfl ?_
    refine wp_get (pc := 12) dX12_twice_12 fl_X12_178_13 hM.1 rfl ?_
    refine wp_sipush (pc := 15) (v := 400) dX12_twice_15 (by decide) ?_
    refine wp_icmp_ne (pc := 18) (tgt := 24) dX12_twice_18 (by decide) (fun c18 => ?_) (fun c18 => ?_)
    · have hl4 := eq400 hL4 (by rw [← hL]; exact c18)
      refine wp_aload_n (pc := 24) dX12_twice_24 rfl rfl ?_
      refine wp_aload_n (pc := 25) dX12_twice_25 rfl rfl ?_
      refine wp_get (pc := 26) dX12_twice_26 fl_X12_100_13 hM.1 rfl ?_
      refine wp_iload_n (pc := 29) dX12_twice_29 rfl rfl ?_
      refine wp_iald (pc := 30) (i := j) dX12_twice_30 (hM.i 36 rfl) ⟨rfl, by omega, by decide⟩ ?_
      refine wp_aload_n (pc := 31) dX12_twice_31 rfl rfl ?_
      refine wp_get (pc := 32) dX12_twice_32 fl_X12_103_13 hM.1 rfl ?_
      refine wp_iload_n (pc := 35) dX12_twice_35 rfl rfl ?_
      refine wp_iald (pc := 36) (i := j) dX12_twice_36 (hM.i 37 rfl) ⟨rfl, by omega, by decide⟩ ?_
      refine wp_aload_n (pc := 37) dX12_twice_37 rfl rfl ?_
      refine wp_get (pc := 38) dX12_twice_38 fl_X12_106_13 hM.1 rfl ?_
      refine wp_iload_n (pc := 41) dX12_twice_41 rfl rfl ?_
      refine wp_iald (pc := 42) (i := j) dX12_twice_42 (hM.i 38 rfl) ⟨rfl, by omega, by decide⟩ ?_
      refine wp_aload_n (pc := 43) dX12_twice_43 rfl rfl ?_
      refine wp_get (pc := 44) dX12_twice_44 fl_X12_109_13 hM.1 rfl ?_
      refine wp_iload_n (pc := 47) dX12_twice_47 rfl rfl ?_
      refine wp_iald (pc := 48) (i := j) dX12_twice_48 (hM.i 39 rfl) ⟨rfl, by omega, by decide⟩ ?_
      refine mp_call (pc := 49) [_, _, _, _] dX12_twice_49 rfl cv_X12_217_13 rfl ⟨(Nat.le_of_ble_eq_true rfl), (Nat.le_of_ble_eq_true rfl)⟩ (Nat.le_of_ble_eq_true rfl) ⟨rfl, rfl⟩ (ms_send l G x am _ _ _ _ _ (by exact hL) (by omega)) hM hF (fun h hM hF => ?_)
      refine wp_istore_n (pc := 52) (lv' := [_, _, _]) dX12_twice_52 rfl (Nat.le_of_ble_eq_true rfl) rfl rfl ?_
      refine wp_aload_n (pc := 53) dX12_twice_53 rfl rfl ?_
      refine wp_get (pc := 54) dX12_twice_54 fl_X12_112_13 hM.1 rfl ?_
      refine wp_iload_n (pc := 57) dX12_twice_57 rfl rfl ?_
      refine wp_aload_n (pc := 58) dX12_twice_58 rfl rfl ?_
      refine wp_get (pc := 59) dX12_twice_59 fl_X12_112_13 hM.1 rfl ?_
      refine wp_iload_n (pc := 62) dX12_twice_62 rfl rfl ?_
      refine wp_iald (pc := 63) (i := j) dX12_twice_63 (hM.i 40 rfl) ⟨rfl, by omega, by decide⟩ ?_
      refine mp_iast (pc := 64) (k := 40) (i := L) dX12_twice_64 hM hF rfl ⟨rfl, by omega, by decide⟩ (fun h hM hF => ?_)
      refine wp_aload_n (pc := 65) dX12_twice_65 rfl rfl ?_
      refine wp_get (pc := 66) dX12_twice_66 fl_X12_115_13 hM.1 rfl ?_
      refine wp_iload_n (pc := 69) dX12_twice_69 rfl rfl ?_
      refine wp_aload_n (pc := 70) dX12_twice_70 rfl rfl ?_
      refine wp_get (pc := 71) dX12_twice_71 fl_X12_115_13 hM.1 rfl ?_
      refine wp_iload_n (pc := 74) dX12_twice_74 rfl rfl ?_
      refine wp_iald (pc := 75) (i := j) dX12_twice_75 (hM.i 41 rfl) ⟨rfl, by omega, by decide⟩ ?_
      refine mp_iast (pc := 76) (k := 41) (i := L) dX12_twice_76 hM hF rfl ⟨rfl, by omega, by decide⟩ (fun h hM hF => ?_)
      refine wp_aload_n (pc := 77) dX12_twice_77 rfl rfl ?_
      refine wp_get (pc := 78) dX12_twice_78 fl_X12_121_13 hM.1 rfl ?_
      refine wp_iload_n (pc := 81) dX12_twice_81 rfl rfl ?_
      refine wp_aload_n (pc := 82) dX12_twice_82 rfl rfl ?_
      refine wp_get (pc := 83) dX12_twice_83 fl_X12_121_13 hM.1 rfl ?_
      refine wp_iload_n (pc := 86) dX12_twice_86 rfl rfl ?_
      refine wp_iald (pc := 87) (i := j) dX12_twice_87 (hM.i 43 rfl) ⟨rfl, by omega, by decide⟩ ?_
      refine mp_iast (pc := 88) (k := 43) (i := L) dX12_twice_88 hM hF rfl ⟨rfl, by omega, by decide⟩ (fun h hM hF => ?_)
      refine wp_aload_n (pc := 89) dX12_twice_89 rfl rfl ?_
      refine wp_get (pc := 90) dX12_twice_90 fl_X12_124_13 hM.1 rfl ?_
      refine wp_iload_n (pc := 93) dX12_twice_93 rfl rfl ?_
      refine wp_aload_n (pc := 94) dX12_twice_94 rfl rfl ?_
      refine wp_get (pc := 95) dX12_twice_95 fl_X12_124_13 hM.1 rfl ?_
      refine wp_iload_n (pc := 98) dX12_twice_98 rfl rfl ?_
      refine wp_lald (pc := 99) (i := j) dX12_twice_99 (hM.j 44 rfl) ⟨rfl, by omega, by decide⟩ ?_
      refine mp_last (pc := 100) (k := 44) (i := L) dX12_twice_100 hM hF rfl ⟨rfl, by omega, by decide⟩ (fun h hM hF => ?_)
      refine wp_aload_n (pc := 101) dX12_twice_101 rfl rfl ?_
      refine wp_get (pc := 102) dX12_twice_102 fl_X12_127_13 hM.1 rfl ?_
      refine wp_iload_n (pc := 105) dX12_twice_105 rfl rfl ?_
      refine wp_aload_n (pc := 106) dX12_twice_106 rfl rfl ?_
      refine wp_get (pc := 107) dX12_twice_107 fl_X12_127_13 hM.1 rfl ?_
      refine wp_iload_n (pc := 110) dX12_twice_110 rfl rfl ?_
      refine wp_lald (pc := 111) (i := j) dX12_twice_111 (hM.j 45 rfl) ⟨rfl, by omega, by decide⟩ ?_
      refine mp_last (pc := 112) (k := 45) (i := L) dX12_twice_112 hM hF rfl ⟨rfl, by omega, by decide⟩ (fun h hM hF => ?_)
      refine wp_iload_n (pc := 113) dX12_twice_113 rfl rfl ?_
      exact wp_iret (pc := 114) dX12_twice_114 rfl ⟨by simp only [f_twice, hLx, c5, eq_false c18, if_true, if_false, Bool.true_eq_false, Bool.false_eq_true, reduceIte, reduceCtorEq, Bool.not_true, Bool.not_false, true_and, and_true, and_false, false_and, or_true, true_or, or_false, false_or, not_true_eq_false, not_false_eq_true] <;> first | rfl | (rw [hL]) | (simp only [e1, c5, eq_false c18, if_true, if_false, Bool.true_eq_false, Bool.false_eq_true, reduceIte, reduceCtorEq, Bool.not_true, Bool.not_false, true_and, and_true, and_false, false_and, or_true, true_or, or_false, false_or, not_true_eq_false, not_false_eq_true] <;> first | rfl | (rw [hL])), by simp only [f_twice, hLx, c5, eq_false c18, if_true, if_false, Bool.true_eq_false, Bool.false_eq_true, reduceIte, reduceCtorEq, Bool.not_true, Bool.not_false, true_and, and_true, and_false, false_and, or_true, true_or, or_false, false_or, not_true_eq_false, not_false_eq_true] <;> first | exact hM | (simp only [e1, c5, eq_false c18, if_true, if_false, Bool.true_eq_false, Bool.false_eq_true, reduceIte, reduceCtorEq, Bool.not_true, Bool.not_false, true_and, and_true, and_false, false_and, or_true, true_or, or_false, false_or, not_true_eq_false, not_false_eq_true] <;> exact hM), hF⟩
    · skip
      refine wp_bipush (pc := 21) (v := (-4)) dX12_twice_21 (by decide) ?_
      exact wp_iret (pc := 23) dX12_twice_23 rfl ⟨by simp only [f_twice, hLx, c5, eq_true c18, if_true, if_false, Bool.true_eq_false, Bool.false_eq_true, reduceIte, reduceCtorEq, Bool.not_true, Bool.not_false, true_and, and_true, and_false, false_and, or_true, true_or, or_false, false_or, not_true_eq_false, not_false_eq_true] <;> first | rfl | (rw [hL]) | (simp only [e1, c5, eq_true c18, if_true, if_false, Bool.true_eq_false, Bool.false_eq_true, reduceIte, reduceCtorEq, Bool.not_true, Bool.not_false, true_and, and_true, and_false, false_and, or_true, true_or, or_false, false_or, not_true_eq_false, not_false_eq_true] <;> first | rfl | (rw [hL])), by simp only [f_twice, hLx, c5, eq_true c18, if_true, if_false, Bool.true_eq_false, Bool.false_eq_true, reduceIte, reduceCtorEq, Bool.not_true, Bool.not_false, true_and, and_true, and_false, false_and, or_true, true_or, or_false, false_or, not_true_eq_false, not_false_eq_true] <;> first | exact hM | (simp only [e1, c5, eq_true c18, if_true, if_false, Bool.true_eq_false, Bool.false_eq_true, reduceIte, reduceCtorEq, Bool.not_true, Bool.not_false, true_and, and_true, and_false, false_and, or_true, true_or, or_false, false_or, not_true_eq_false, not_false_eq_true] <;> exact hM), hF⟩
  · skip
    refine wp_bipush (pc := 8) (v := (-2)) dX12_twice_8 (by decide) ?_
    exact wp_iret (pc := 10) dX12_twice_10 rfl ⟨by simp only [f_twice, hLx, c5, if_true, if_false, Bool.true_eq_false, Bool.false_eq_true, reduceIte, reduceCtorEq, Bool.not_true, Bool.not_false, true_and, and_true, and_false, false_and, or_true, true_or, or_false, false_or, not_true_eq_false, not_false_eq_true] <;> first | rfl | (rw [hL]) | (simp only [e1, c5, if_true, if_false, Bool.true_eq_false, Bool.false_eq_true, reduceIte, reduceCtorEq, Bool.not_true, Bool.not_false, true_and, and_true, and_false, false_and, or_true, true_or, or_false, false_or, not_true_eq_false, not_false_eq_true] <;> first | rfl | (rw [hL])), by simp only [f_twice, hLx, c5, if_true, if_false, Bool.true_eq_false, Bool.false_eq_true, reduceIte, reduceCtorEq, Bool.not_true, Bool.not_false, true_and, and_true, and_false, false_and, or_true, true_or, or_false, false_or, not_true_eq_false, not_false_eq_true] <;> first | exact hM | (simp only [e1, c5, if_true, if_false, Bool.true_eq_false, Bool.false_eq_true, reduceIte, reduceCtorEq, Bool.not_true, Bool.not_false, true_and, and_true, and_false, false_and, or_true, true_or, or_false, false_or, not_true_eq_false, not_false_eq_true] <;> exact hM), hF⟩
theorem ms_wrote (v : Int32) (what : Int32)  {L : Nat} (hL : M.1 35 = nI L) (hL4 : L ≤ 400) : MSp l G x am mX12_wrote [.int v, .int what] M (some (.long (f_wrote M v what))) M := by
  refine MSp.intro (lv := [_, _, _]) (by decide) rfl (Nat.le_of_ble_eq_true rfl) (fun h0 h hM hF => ?_)
  have hLx : nx (M.1 35) = L := by rw [hL]; exact nx_nI (by omega)
  refine wp_aload_n (pc := 0) dX12_wrote_0 rfl rfl ?_
  refine wp_iload_n (pc := 1) dX12_wrote_1 rfl rfl ?_
  refine mp_call (pc := 2) [_] dX12_wrote_2 rfl cv_X12_228_13 rfl ⟨(Nat.le_of_ble_eq_true rfl), (Nat.le_of_ble_eq_true rfl)⟩ (Nat.le_of_ble_eq_true rfl) ⟨rfl, rfl⟩ (ms_isLetter l G x am _ _ (by exact hL) hL4) hM hF (fun h hM hF => ?_)
  refine wp_ifB_eq (pc := 5) (tgt := 17) dX12_wrote_5 (by decide) (fun c5 => ?_) (fun c5 => ?_)
  · skip
    refine wp_ldc2_w (pc := 17) dX12_wrote_17 w6_61 ?_
    exact wp_lret (pc := 20) dX12_wrote_20 rfl ⟨by simp only [f_wrote, hLx, c5, if_true, if_false, Bool.true_eq_false, Bool.false_eq_true, reduceIte, reduceCtorEq, Bool.not_true, Bool.not_false, true_and, and_true, and_false, false_and, or_true, true_or, or_false, false_or, not_true_eq_false, not_false_eq_true] <;> first | rfl | (simp only [e1, c5, if_true, if_false, Bool.true_eq_false, Bool.false_eq_true, reduceIte, reduceCtorEq, Bool.not_true, Bool.not_false, true_and, and_true, and_false, false_and, or_true, true_or, or_false, false_or, not_true_eq_false, not_false_eq_true] <;> first | rfl | decide), hM, hF⟩
  · obtain ⟨j, hj, rfl⟩ := isIx_t c5 (by omega)
    have e1 : nx (nI j) = j := nx_nI (by omega)
    refine wp_iload_n (pc := 8) dX12_wrote_8 rfl rfl ?_
    refine wp_iconst (pc := 9) (v := 0) dX12_wrote_9 (by decide) ?_
    refine wp_iconst (pc := 10) (v := 2) dX12_wrote_10 (by decide) ?_
    refine mp_callS (pc := 11) [_, _, _] dX12_wrote_11 rfl cs_X12_153 rfl ⟨(Nat.le_of_ble_eq_true rfl), (Nat.le_of_ble_eq_true rfl)⟩ (Nat.le_of_ble_eq_true rfl) ⟨rfl, rfl⟩ (ms_in l G _ _ _ h) ?_
    refine wp_ifB_ne (pc := 14) (tgt := 21) dX12_wrote_14 (by decide) (fun c14 => ?_) (fun c14 => ?_)
    · skip
      refine wp_iload_n (pc := 21) dX12_wrote_21 rfl rfl ?_
      refine wp_if_ne (pc := 22) (tgt := 34) dX12_wrote_22 (by decide) (fun c22 => ?_) (fun c22 => ?_)
      · skip
        refine wp_iload_n (pc := 34) dX12_wrote_34 rfl rfl ?_
        refine wp_iconst (pc := 35) (v := 1) dX12_wrote_35 (by decide) ?_
        refine wp_icmp_ne (pc := 36) (tgt := 48) dX12_wrote_36 (by decide) (fun c36 => ?_) (fun c36 => ?_)
        · skip
          refine wp_aload_n (pc := 48) dX12_wrote_48 rfl rfl ?_
          refine wp_get (pc := 49) dX12_wrote_49 fl_X12_121_13 hM.1 rfl ?_
          refine wp_iload_n (pc := 52) dX12_wrote_52 rfl rfl ?_
          refine wp_iald (pc := 53) (i := j) dX12_wrote_53 (hM.i 43 rfl) ⟨rfl, by omega, by decide⟩ ?_
          refine wp_i2l (pc := 54) dX12_wrote_54 ?_
          exact wp_lret (pc := 55) dX12_wrote_55 rfl ⟨by simp only [f_wrote, hLx, c5, c14, eq_false c22, eq_false c36, if_true, if_false, Bool.true_eq_false, Bool.false_eq_true, reduceIte, reduceCtorEq, Bool.not_true, Bool.not_false, true_and, and_true, and_false, false_and, or_true, true_or, or_false, false_or, not_true_eq_false, not_false_eq_true] <;> first | rfl | (simp only [e1, c5, c14, eq_false c22, eq_false c36, if_true, if_false, Bool.true_eq_false, Bool.false_eq_true, reduceIte, reduceCtorEq, Bool.not_true, Bool.not_false, true_and, and_true, and_false, false_and, or_true, true_or, or_false, false_or, not_true_eq_false, not_false_eq_true] <;> first | rfl | decide), hM, hF⟩
        · skip
          refine wp_aload_n (pc := 39) dX12_wrote_39 rfl rfl ?_
          refine wp_get (pc := 40) dX12_wrote_40 fl_X12_127_13 hM.1 rfl ?_
          refine wp_iload_n (pc := 43) dX12_wrote_43 rfl rfl ?_
          refine wp_lald (pc := 44) (i := j) dX12_wrote_44 (hM.j 45 rfl) ⟨rfl, by omega, by decide⟩ ?_
          refine wp_goto (pc := 45) (tgt := 55) dX12_wrote_45 (by decide) ?_
          exact wp_lret (pc := 55) dX12_wrote_55 rfl ⟨by simp only [f_wrote, hLx, c5, c14, eq_false c22, eq_true c36, if_true, if_false, Bool.true_eq_false, Bool.false_eq_true, reduceIte, reduceCtorEq, Bool.not_true, Bool.not_false, true_and, and_true, and_false, false_and, or_true, true_or, or_false, false_or, not_true_eq_false, not_false_eq_true] <;> first | rfl | (simp only [e1, c5, c14, eq_false c22, eq_true c36, if_true, if_false, Bool.true_eq_false, Bool.false_eq_true, reduceIte, reduceCtorEq, Bool.not_true, Bool.not_false, true_and, and_true, and_false, false_and, or_true, true_or, or_false, false_or, not_true_eq_false, not_false_eq_true] <;> first | rfl | decide), hM, hF⟩
      · skip
        refine wp_aload_n (pc := 25) dX12_wrote_25 rfl rfl ?_
        refine wp_get (pc := 26) dX12_wrote_26 fl_X12_124_13 hM.1 rfl ?_
        refine wp_iload_n (pc := 29) dX12_wrote_29 rfl rfl ?_
        refine wp_lald (pc := 30) (i := j) dX12_wrote_30 (hM.j 44 rfl) ⟨rfl, by omega, by decide⟩ ?_
        refine wp_goto (pc := 31) (tgt := 55) dX12_wrote_31 (by decide) ?_
        exact wp_lret (pc := 55) dX12_wrote_55 rfl ⟨by simp only [f_wrote, hLx, c5, c14, eq_true c22, if_true, if_false, Bool.true_eq_false, Bool.false_eq_true, reduceIte, reduceCtorEq, Bool.not_true, Bool.not_false, true_and, and_true, and_false, false_and, or_true, true_or, or_false, false_or, not_true_eq_false, not_false_eq_true] <;> first | rfl | (simp only [e1, c5, c14, eq_true c22, if_true, if_false, Bool.true_eq_false, Bool.false_eq_true, reduceIte, reduceCtorEq, Bool.not_true, Bool.not_false, true_and, and_true, and_false, false_and, or_true, true_or, or_false, false_or, not_true_eq_false, not_false_eq_true] <;> first | rfl | decide), hM, hF⟩
    · skip
      refine wp_ldc2_w (pc := 17) dX12_wrote_17 w6_61 ?_
      exact wp_lret (pc := 20) dX12_wrote_20 rfl ⟨by simp only [f_wrote, hLx, c5, c14, if_true, if_false, Bool.true_eq_false, Bool.false_eq_true, reduceIte, reduceCtorEq, Bool.not_true, Bool.not_false, true_and, and_true, and_false, false_and, or_true, true_or, or_false, false_or, not_true_eq_false, not_false_eq_true] <;> first | rfl | (simp only [e1, c5, c14, if_true, if_false, Bool.true_eq_false, Bool.false_eq_true, reduceIte, reduceCtorEq, Bool.not_true, Bool.not_false, true_and, and_true, and_false, false_and, or_true, true_or, or_false, false_or, not_true_eq_false, not_false_eq_true] <;> first | rfl | decide), hM, hF⟩
theorem ms_letter (v : Int32) (what : Int32)  {L : Nat} (hL : M.1 35 = nI L) (hL4 : L ≤ 400) : MSp l G x am mX12_letter [.int v, .int what] M (some (.int (f_letter M v what))) M := by
  refine MSp.intro (lv := [_, _, _]) (by decide) rfl (Nat.le_of_ble_eq_true rfl) (fun h0 h hM hF => ?_)
  have hLx : nx (M.1 35) = L := by rw [hL]; exact nx_nI (by omega)
  refine wp_aload_n (pc := 0) dX12_letter_0 rfl rfl ?_
  refine wp_iload_n (pc := 1) dX12_letter_1 rfl rfl ?_
  refine mp_call (pc := 2) [_] dX12_letter_2 rfl cv_X12_228_13 rfl ⟨(Nat.le_of_ble_eq_true rfl), (Nat.le_of_ble_eq_true rfl)⟩ (Nat.le_of_ble_eq_true rfl) ⟨rfl, rfl⟩ (ms_isLetter l G x am _ _ (by exact hL) hL4) hM hF (fun h hM hF => ?_)
  refine wp_ifB_eq (pc := 5) (tgt := 18) dX12_letter_5 (by decide) (fun c5 => ?_) (fun c5 => ?_)
  · skip
    refine wp_bipush (pc := 18) (v := (-2)) dX12_letter_18 (by decide) ?_
    exact wp_iret (pc := 20) dX12_letter_20 rfl ⟨by simp only [f_letter, hLx, c5, if_true, if_false, Bool.true_eq_false, Bool.false_eq_true, reduceIte, reduceCtorEq, Bool.not_true, Bool.not_false, true_and, and_true, and_false, false_and, or_true, true_or, or_false, false_or, not_true_eq_false, not_false_eq_true] <;> first | rfl | (simp only [e1, c5, if_true, if_false, Bool.true_eq_false, Bool.false_eq_true, reduceIte, reduceCtorEq, Bool.not_true, Bool.not_false, true_and, and_true, and_false, false_and, or_true, true_or, or_false, false_or, not_true_eq_false, not_false_eq_true] <;> first | rfl | decide), hM, hF⟩
  · obtain ⟨j, hj, rfl⟩ := isIx_t c5 (by omega)
    have e1 : nx (nI j) = j := nx_nI (by omega)
    refine wp_iload_n (pc := 8) dX12_letter_8 rfl rfl ?_
    refine wp_iconst (pc := 9) (v := 0) dX12_letter_9 (by decide) ?_
    refine wp_bipush (pc := 10) (v := 6) dX12_letter_10 (by decide) ?_
    refine mp_callS (pc := 12) [_, _, _] dX12_letter_12 rfl cs_X12_153 rfl ⟨(Nat.le_of_ble_eq_true rfl), (Nat.le_of_ble_eq_true rfl)⟩ (Nat.le_of_ble_eq_true rfl) ⟨rfl, rfl⟩ (ms_in l G _ _ _ h) ?_
    refine wp_ifB_ne (pc := 15) (tgt := 21) dX12_letter_15 (by decide) (fun c15 => ?_) (fun c15 => ?_)
    · skip
      refine wp_iload_n (pc := 21) dX12_letter_21 rfl rfl ?_
      refine wp_tsw_0_5 (pc := 22) dX12_letter_22 (t0 := 60) (t1 := 67) (t2 := 74) (t3 := 81) (t4 := 88) (t5 := 95) (td := 102) (by decide) (by decide) (by decide) (by decide) (by decide) (by decide) (by decide) (fun c22 => ?_) (fun c22 => ?_) (fun c22 => ?_) (fun c22 => ?_) (fun c22 => ?_) (fun c22 => ?_) (fun c22 => ?_)
      · skip
        refine wp_aload_n (pc := 60) dX12_letter_60 rfl rfl ?_
        refine wp_get (pc := 61) dX12_letter_61 fl_X12_100_13 hM.1 rfl ?_
        refine wp_iload_n (pc := 64) dX12_letter_64 rfl rfl ?_
        refine wp_iald (pc := 65) (i := j) dX12_letter_65 (hM.i 36 rfl) ⟨rfl, by omega, by decide⟩ ?_
        exact wp_iret (pc := 66) dX12_letter_66 rfl ⟨by subst c22; simp only [f_letter, hLx, e1, c5, c15, if_true, if_false, Bool.true_eq_false, Bool.false_eq_true, reduceIte, reduceCtorEq, Bool.not_true, Bool.not_false, true_and, and_true, and_false, false_and, or_true, true_or, or_false, false_or, not_true_eq_false, not_false_eq_true] <;> rfl, hM, hF⟩
      · skip
        refine wp_aload_n (pc := 67) dX12_letter_67 rfl rfl ?_
        refine wp_get (pc := 68) dX12_letter_68 fl_X12_103_13 hM.1 rfl ?_
        refine wp_iload_n (pc := 71) dX12_letter_71 rfl rfl ?_
        refine wp_iald (pc := 72) (i := j) dX12_letter_72 (hM.i 37 rfl) ⟨rfl, by omega, by decide⟩ ?_
        exact wp_iret (pc := 73) dX12_letter_73 rfl ⟨by subst c22; simp only [f_letter, hLx, e1, c5, c15, if_true, if_false, Bool.true_eq_false, Bool.false_eq_true, reduceIte, reduceCtorEq, Bool.not_true, Bool.not_false, true_and, and_true, and_false, false_and, or_true, true_or, or_false, false_or, not_true_eq_false, not_false_eq_true] <;> rfl, hM, hF⟩
      · skip
        refine wp_aload_n (pc := 74) dX12_letter_74 rfl rfl ?_
        refine wp_get (pc := 75) dX12_letter_75 fl_X12_106_13 hM.1 rfl ?_
        refine wp_iload_n (pc := 78) dX12_letter_78 rfl rfl ?_
        refine wp_iald (pc := 79) (i := j) dX12_letter_79 (hM.i 38 rfl) ⟨rfl, by omega, by decide⟩ ?_
        exact wp_iret (pc := 80) dX12_letter_80 rfl ⟨by subst c22; simp only [f_letter, hLx, e1, c5, c15, if_true, if_false, Bool.true_eq_false, Bool.false_eq_true, reduceIte, reduceCtorEq, Bool.not_true, Bool.not_false, true_and, and_true, and_false, false_and, or_true, true_or, or_false, false_or, not_true_eq_false, not_false_eq_true] <;> rfl, hM, hF⟩
      · skip
        refine wp_aload_n (pc := 81) dX12_letter_81 rfl rfl ?_
        refine wp_get (pc := 82) dX12_letter_82 fl_X12_109_13 hM.1 rfl ?_
        refine wp_iload_n (pc := 85) dX12_letter_85 rfl rfl ?_
        refine wp_iald (pc := 86) (i := j) dX12_letter_86 (hM.i 39 rfl) ⟨rfl, by omega, by decide⟩ ?_
        exact wp_iret (pc := 87) dX12_letter_87 rfl ⟨by subst c22; simp only [f_letter, hLx, e1, c5, c15, if_true, if_false, Bool.true_eq_false, Bool.false_eq_true, reduceIte, reduceCtorEq, Bool.not_true, Bool.not_false, true_and, and_true, and_false, false_and, or_true, true_or, or_false, false_or, not_true_eq_false, not_false_eq_true] <;> rfl, hM, hF⟩
      · skip
        refine wp_aload_n (pc := 88) dX12_letter_88 rfl rfl ?_
        refine wp_get (pc := 89) dX12_letter_89 fl_X12_112_13 hM.1 rfl ?_
        refine wp_iload_n (pc := 92) dX12_letter_92 rfl rfl ?_
        refine wp_iald (pc := 93) (i := j) dX12_letter_93 (hM.i 40 rfl) ⟨rfl, by omega, by decide⟩ ?_
        exact wp_iret (pc := 94) dX12_letter_94 rfl ⟨by subst c22; simp only [f_letter, hLx, e1, c5, c15, if_true, if_false, Bool.true_eq_false, Bool.false_eq_true, reduceIte, reduceCtorEq, Bool.not_true, Bool.not_false, true_and, and_true, and_false, false_and, or_true, true_or, or_false, false_or, not_true_eq_false, not_false_eq_true] <;> rfl, hM, hF⟩
      · skip
        refine wp_aload_n (pc := 95) dX12_letter_95 rfl rfl ?_
        refine wp_get (pc := 96) dX12_letter_96 fl_X12_115_13 hM.1 rfl ?_
        refine wp_iload_n (pc := 99) dX12_letter_99 rfl rfl ?_
        refine wp_iald (pc := 100) (i := j) dX12_letter_100 (hM.i 41 rfl) ⟨rfl, by omega, by decide⟩ ?_
        exact wp_iret (pc := 101) dX12_letter_101 rfl ⟨by subst c22; simp only [f_letter, hLx, e1, c5, c15, if_true, if_false, Bool.true_eq_false, Bool.false_eq_true, reduceIte, reduceCtorEq, Bool.not_true, Bool.not_false, true_and, and_true, and_false, false_and, or_true, true_or, or_false, false_or, not_true_eq_false, not_false_eq_true] <;> rfl, hM, hF⟩
      · skip
        refine wp_aload_n (pc := 102) dX12_letter_102 rfl rfl ?_
        refine wp_get (pc := 103) dX12_letter_103 fl_X12_118_13 hM.1 rfl ?_
        refine wp_iload_n (pc := 106) dX12_letter_106 rfl rfl ?_
        refine wp_iald (pc := 107) (i := j) dX12_letter_107 (hM.i 42 rfl) ⟨rfl, by omega, by decide⟩ ?_
        exact wp_iret (pc := 108) dX12_letter_108 rfl ⟨by simp only [f_letter, hLx, e1, c5, c15, if_true, if_false, Bool.true_eq_false, Bool.false_eq_true, reduceIte, reduceCtorEq, Bool.not_true, Bool.not_false, true_and, and_true, and_false, false_and, or_true, true_or, or_false, false_or, not_true_eq_false, not_false_eq_true]; rw [if_neg (sw_ne c22 (by decide)), if_neg (sw_ne c22 (by decide)), if_neg (sw_ne c22 (by decide)), if_neg (sw_ne c22 (by decide)), if_neg (sw_ne c22 (by decide)), if_neg (sw_ne c22 (by decide))], hM, hF⟩
    · skip
      refine wp_bipush (pc := 18) (v := (-2)) dX12_letter_18 (by decide) ?_
      exact wp_iret (pc := 20) dX12_letter_20 rfl ⟨by simp only [f_letter, hLx, c5, c15, if_true, if_false, Bool.true_eq_false, Bool.false_eq_true, reduceIte, reduceCtorEq, Bool.not_true, Bool.not_false, true_and, and_true, and_false, false_and, or_true, true_or, or_false, false_or, not_true_eq_false, not_false_eq_true] <;> first | rfl | (simp only [e1, c5, c15, if_true, if_false, Bool.true_eq_false, Bool.false_eq_true, reduceIte, reduceCtorEq, Bool.not_true, Bool.not_false, true_and, and_true, and_false, false_and, or_true, true_or, or_false, false_or, not_true_eq_false, not_false_eq_true] <;> first | rfl | decide), hM, hF⟩
def ledE (M : MS) (t : Nat) (e : Int64) : Nat → MS
  | 0 => M
  | i + 1 => sL (ledE M t e i) 26 (20 * t + i) e
def ledM (M : MS) (k : Nat) : Nat → MS
  | 0 => M
  | t + 1 => sL (ledE (ledM M k t) t (kClk (ledM M k t) k + (lng (ledM M k t) t).toInt64) (nx (M.2.1 21 t))) 19 t (kClk (ledM M k t) k + (lng (ledM M k t) t).toInt64)
def f_lead (M : MS) (v : Int32) : Int32 × MS := if isIx v (nx (M.1 2)) = false then (-2, M) else if M.2.1 5 (nx v) = 0 then (-3, M) else if isMst M = false then (-3, M) else (M.1 28 + 1, ledM (sS (sS M 27 v) 28 (M.1 28 + 1)) (nx v) (nx (M.1 11)))
theorem ledE_1 (M : MS) (t : Nat) (e : Int64) (i : Nat) : (ledE M t e i).1 = M.1 ∧ (ledE M t e i).2.1 = M.2.1 := by
  induction i with
  | zero => exact ⟨rfl, rfl⟩
  | succ i ih => exact ih
theorem ledM_1 (M : MS) (k t : Nat) : (ledM M k t).1 = M.1 ∧ (ledM M k t).2.1 = M.2.1 := by
  induction t with
  | zero => exact ⟨rfl, rfl⟩
  | succ t ih =>
    have h := ledE_1 (ledM M k t) t (kClk (ledM M k t) k + (lng (ledM M k t) t).toInt64) (nx (M.2.1 21 t))
    exact ⟨h.1.trans ih.1, h.2.trans ih.2⟩
end M2
