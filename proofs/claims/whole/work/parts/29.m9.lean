/-! ===== the reference: what is told, 2 ===== -/
theorem ge9 {v : Int32} (h0 : 0 ≤ v) (h : v < 0 ∨ 8 < v) : ∃ n, n < 2 ^ 31 ∧ 9 ≤ n ∧ v = nI n ∧ v - 9 = nI (n - 9) := by
  obtain ⟨n, hn, rfl⟩ := nI_of (Int32.not_lt.mpr h0)
  have h8 : 8 < nI n := h.resolve_left (Int32.not_lt.mpr h0)
  rw [show (8 : Int32) = nI 8 from rfl, nI_ltI (by decide) hn] at h8
  refine ⟨n, hn, by omega, rfl, ?_⟩
  obtain ⟨m, rfl⟩ : ∃ m, n = m + 9 := ⟨n - 9, by omega⟩
  rw [show m + 9 - 9 = m by omega, ← nI_add, show nI 9 = (9 : Int32) from rfl]
  exact Int32.add_sub_cancel ..
section M9
variable (l : Launch) (G : WG) (x : Nat) (am : Nat → Nat) (M : MS)
theorem tw_ix {t m q : Nat} {v : Int32} (h9 : 9 ≤ m) (hv : v = nI m) (ht : t < 20) (hq : q ≤ 8) (hm : m - 9 < q) : ix (8 * nI t + v - 9) 160 (8 * t + (m - 9)) := by
  refine ⟨?_, by omega, by decide⟩
  subst hv
  obtain ⟨m, rfl⟩ : ∃ n, m = n + 9 := ⟨m - 9, by omega⟩
  rw [show m + 9 - 9 = m by omega, ← nI_add, ← nI_add, show nI 9 = (9 : Int32) from rfl, nl8, pk_mul, ← Int32.add_assoc]
  exact Int32.add_sub_cancel ..
theorem ms_told (v : Int32) (what : Int32)  {N : Nat} (hT : M.1 11 = nI N) (hT2 : N ≤ 20) {W : Nat} (hW : M.1 6 = nI W) (hW2 : W ≤ 20) (hd0 : ¬ 1000 - M.1 0 = 0) (hTq : ∀ t, t < N → ∃ q : Nat, M.2.1 16 t = nI q ∧ q ≤ 8) : MSp l G x am mX12_told [.int v, .int what] M (some (.int (f_told M v what))) M := by
  refine MSp.intro (lv := [_, _, _]) (by decide) rfl (Nat.le_of_ble_eq_true rfl) (fun h0 h hM hF => ?_)
  have hTx : nx (M.1 11) = N := by rw [hT]; exact nx_nI (by omega)
  have hWx : nx (M.1 6) = W := by rw [hW]; exact nx_nI (by omega)
  refine wp_aload_n (pc := 0) dX12_told_0 rfl rfl ?_
  refine wp_iload_n (pc := 1) dX12_told_1 rfl rfl ?_
  refine mp_call (pc := 2) [_] dX12_told_2 rfl cv_X12_214_13 rfl ⟨(Nat.le_of_ble_eq_true rfl), (Nat.le_of_ble_eq_true rfl)⟩ (Nat.le_of_ble_eq_true rfl) ⟨rfl, rfl⟩ (ms_isThing l G x am _ _ (by exact hT) hT2) hM hF (fun h hM hF => ?_)
  refine wp_ifB_eq (pc := 5) (tgt := 12) dX12_told_5 (by decide) (fun c5 => ?_) (fun c5 => ?_)
  · skip
    refine wp_bipush (pc := 12) (v := (-2)) dX12_told_12 (by decide) ?_
    exact wp_iret (pc := 14) dX12_told_14 rfl ⟨by simp only [f_told, hTx, c5, if_true, if_false, Bool.true_eq_false, Bool.false_eq_true, reduceIte, reduceCtorEq, Bool.not_true, Bool.not_false, true_and, and_true, and_false, false_and, or_true, true_or, or_false, false_or, not_true_eq_false, not_false_eq_true], hM, hF⟩
  · obtain ⟨j, hj, rfl⟩ := isIx_t c5 (by omega)
    have e1 : nx (nI j) = j := nx_nI (by omega)
    obtain ⟨q, hq, hq2⟩ := hTq j hj
    refine wp_iload_n (pc := 8) dX12_told_8 rfl rfl ?_
    refine wp_if_ge (pc := 9) (tgt := 15) dX12_told_9 (by decide) (fun c9 => ?_) (fun c9 => ?_)
    · skip
      refine wp_iload_n (pc := 15) dX12_told_15 rfl rfl ?_
      refine wp_tsw_0_8 (pc := 16) dX12_told_16 (t0 := 68) (t1 := 75) (t2 := 82) (t3 := 88) (t4 := 95) (t5 := 102) (t6 := 109) (t7 := 116) (t8 := 131) (td := 137) (by decide) (by decide) (by decide) (by decide) (by decide) (by decide) (by decide) (by decide) (by decide) (by decide) (fun c16 => ?_) (fun c16 => ?_) (fun c16 => ?_) (fun c16 => ?_) (fun c16 => ?_) (fun c16 => ?_) (fun c16 => ?_) (fun c16 => ?_) (fun c16 => ?_) (fun c16 => ?_)
      · skip
        refine wp_aload_n (pc := 68) dX12_told_68 rfl rfl ?_
        refine wp_get (pc := 69) dX12_told_69 fl_X12_32_13 hM.1 rfl ?_
        refine wp_iload_n (pc := 72) dX12_told_72 rfl rfl ?_
        refine wp_iald (pc := 73) (i := j) dX12_told_73 (hM.i 12 rfl) ⟨rfl, by omega, by decide⟩ ?_
        exact wp_iret (pc := 74) dX12_told_74 rfl ⟨by subst c16; simp only [f_told, hTx, hWx, e1, c5, eq_true c9, if_true, if_false, Bool.true_eq_false, Bool.false_eq_true, reduceIte, reduceCtorEq, Bool.not_true, Bool.not_false, true_and, and_true, and_false, false_and, or_true, true_or, or_false, false_or, not_true_eq_false, not_false_eq_true] <;> rfl, hM, hF⟩
      · skip
        refine wp_aload_n (pc := 75) dX12_told_75 rfl rfl ?_
        refine wp_get (pc := 76) dX12_told_76 fl_X12_35_13 hM.1 rfl ?_
        refine wp_iload_n (pc := 79) dX12_told_79 rfl rfl ?_
        refine wp_iald (pc := 80) (i := j) dX12_told_80 (hM.i 13 rfl) ⟨rfl, by omega, by decide⟩ ?_
        exact wp_iret (pc := 81) dX12_told_81 rfl ⟨by subst c16; simp only [f_told, hTx, hWx, e1, c5, eq_true c9, if_true, if_false, Bool.true_eq_false, Bool.false_eq_true, reduceIte, reduceCtorEq, Bool.not_true, Bool.not_false, true_and, and_true, and_false, false_and, or_true, true_or, or_false, false_or, not_true_eq_false, not_false_eq_true] <;> rfl, hM, hF⟩
      · skip
        refine wp_aload_n (pc := 82) dX12_told_82 rfl rfl ?_
        refine wp_iload_n (pc := 83) dX12_told_83 rfl rfl ?_
        refine mp_call (pc := 84) [_] dX12_told_84 rfl cv_X12_210_13 rfl ⟨(Nat.le_of_ble_eq_true rfl), (Nat.le_of_ble_eq_true rfl)⟩ (Nat.le_of_ble_eq_true rfl) ⟨rfl, rfl⟩ (ms_long0 l G x am _ _ (by omega) (by exact hd0)) hM hF (fun h hM hF => ?_)
        exact wp_iret (pc := 87) dX12_told_87 rfl ⟨by subst c16; simp only [f_told, hTx, hWx, e1, c5, eq_true c9, if_true, if_false, Bool.true_eq_false, Bool.false_eq_true, reduceIte, reduceCtorEq, Bool.not_true, Bool.not_false, true_and, and_true, and_false, false_and, or_true, true_or, or_false, false_or, not_true_eq_false, not_false_eq_true] <;> rfl, hM, hF⟩
      · skip
        refine wp_aload_n (pc := 88) dX12_told_88 rfl rfl ?_
        refine wp_get (pc := 89) dX12_told_89 fl_X12_38_13 hM.1 rfl ?_
        refine wp_iload_n (pc := 92) dX12_told_92 rfl rfl ?_
        refine wp_iald (pc := 93) (i := j) dX12_told_93 (hM.i 14 rfl) ⟨rfl, by omega, by decide⟩ ?_
        exact wp_iret (pc := 94) dX12_told_94 rfl ⟨by subst c16; simp only [f_told, hTx, hWx, e1, c5, eq_true c9, if_true, if_false, Bool.true_eq_false, Bool.false_eq_true, reduceIte, reduceCtorEq, Bool.not_true, Bool.not_false, true_and, and_true, and_false, false_and, or_true, true_or, or_false, false_or, not_true_eq_false, not_false_eq_true] <;> rfl, hM, hF⟩
      · skip
        refine wp_aload_n (pc := 95) dX12_told_95 rfl rfl ?_
        refine wp_get (pc := 96) dX12_told_96 fl_X12_60_13 hM.1 rfl ?_
        refine wp_iload_n (pc := 99) dX12_told_99 rfl rfl ?_
        refine wp_iald (pc := 100) (i := j) dX12_told_100 (hM.i 21 rfl) ⟨rfl, by omega, by decide⟩ ?_
        exact wp_iret (pc := 101) dX12_told_101 rfl ⟨by subst c16; simp only [f_told, hTx, hWx, e1, c5, eq_true c9, if_true, if_false, Bool.true_eq_false, Bool.false_eq_true, reduceIte, reduceCtorEq, Bool.not_true, Bool.not_false, true_and, and_true, and_false, false_and, or_true, true_or, or_false, false_or, not_true_eq_false, not_false_eq_true] <;> rfl, hM, hF⟩
      · skip
        refine wp_aload_n (pc := 102) dX12_told_102 rfl rfl ?_
        refine wp_get (pc := 103) dX12_told_103 fl_X12_41_13 hM.1 rfl ?_
        refine wp_iload_n (pc := 106) dX12_told_106 rfl rfl ?_
        refine wp_iald (pc := 107) (i := j) dX12_told_107 (hM.i 15 rfl) ⟨rfl, by omega, by decide⟩ ?_
        exact wp_iret (pc := 108) dX12_told_108 rfl ⟨by subst c16; simp only [f_told, hTx, hWx, e1, c5, eq_true c9, if_true, if_false, Bool.true_eq_false, Bool.false_eq_true, reduceIte, reduceCtorEq, Bool.not_true, Bool.not_false, true_and, and_true, and_false, false_and, or_true, true_or, or_false, false_or, not_true_eq_false, not_false_eq_true] <;> rfl, hM, hF⟩
      · skip
        refine wp_aload_n (pc := 109) dX12_told_109 rfl rfl ?_
        refine wp_get (pc := 110) dX12_told_110 fl_X12_44_13 hM.1 rfl ?_
        refine wp_iload_n (pc := 113) dX12_told_113 rfl rfl ?_
        refine wp_iald (pc := 114) (i := j) dX12_told_114 (hM.i 16 rfl) ⟨rfl, by omega, by decide⟩ ?_
        exact wp_iret (pc := 115) dX12_told_115 rfl ⟨by subst c16; simp only [f_told, hTx, hWx, e1, c5, eq_true c9, if_true, if_false, Bool.true_eq_false, Bool.false_eq_true, reduceIte, reduceCtorEq, Bool.not_true, Bool.not_false, true_and, and_true, and_false, false_and, or_true, true_or, or_false, false_or, not_true_eq_false, not_false_eq_true] <;> rfl, hM, hF⟩
      · skip
        refine wp_aload_n (pc := 116) dX12_told_116 rfl rfl ?_
        refine wp_get (pc := 117) dX12_told_117 fl_X12_57_13 hM.1 rfl ?_
        refine wp_iload_n (pc := 120) dX12_told_120 rfl rfl ?_
        refine wp_zald (pc := 121) (i := j) dX12_told_121 (hM.z 20 rfl) ⟨rfl, by omega, by decide⟩ ?_
        refine wp_if_eq (pc := 122) (tgt := 129) dX12_told_122 (by decide) (fun c122 => ?_) (fun c122 => ?_)
        · skip
          refine wp_iconst (pc := 129) (v := 0) dX12_told_129 (by decide) ?_
          exact wp_iret (pc := 130) dX12_told_130 rfl ⟨by subst c16; simp only [f_told, hTx, hWx, e1, c5, eq_true c9, eq_true c122, if_true, if_false, Bool.true_eq_false, Bool.false_eq_true, reduceIte, reduceCtorEq, Bool.not_true, Bool.not_false, true_and, and_true, and_false, false_and, or_true, true_or, or_false, false_or, not_true_eq_false, not_false_eq_true] <;> rfl, hM, hF⟩
        · skip
          refine wp_iconst (pc := 125) (v := 1) dX12_told_125 (by decide) ?_
          refine wp_goto (pc := 126) (tgt := 130) dX12_told_126 (by decide) ?_
          exact wp_iret (pc := 130) dX12_told_130 rfl ⟨by subst c16; simp only [f_told, hTx, hWx, e1, c5, eq_true c9, eq_false c122, if_true, if_false, Bool.true_eq_false, Bool.false_eq_true, reduceIte, reduceCtorEq, Bool.not_true, Bool.not_false, true_and, and_true, and_false, false_and, or_true, true_or, or_false, false_or, not_true_eq_false, not_false_eq_true] <;> rfl, hM, hF⟩
      · skip
        refine wp_aload_n (pc := 131) dX12_told_131 rfl rfl ?_
        refine wp_iload_n (pc := 132) dX12_told_132 rfl rfl ?_
        refine mp_call (pc := 133) [_] dX12_told_133 rfl cv_X12_306_13 rfl ⟨(Nat.le_of_ble_eq_true rfl), (Nat.le_of_ble_eq_true rfl)⟩ (Nat.le_of_ble_eq_true rfl) ⟨rfl, rfl⟩ (ms_mays l G x am _ _ (by exact hW) hW2 (by omega)) hM hF (fun h hM hF => ?_)
        exact wp_iret (pc := 136) dX12_told_136 rfl ⟨by subst c16; simp only [f_told, hTx, hWx, e1, c5, eq_true c9, if_true, if_false, Bool.true_eq_false, Bool.false_eq_true, reduceIte, reduceCtorEq, Bool.not_true, Bool.not_false, true_and, and_true, and_false, false_and, or_true, true_or, or_false, false_or, not_true_eq_false, not_false_eq_true] <;> rfl, hM, hF⟩
      · obtain ⟨n, hn9, h9, hwn, hw9⟩ := ge9 c9 c16
        have hnx : nx what = n := by rw [hwn]; exact nx_nI hn9
        refine wp_iload_n (pc := 137) dX12_told_137 rfl rfl ?_
        refine wp_bipush (pc := 138) (v := 9) dX12_told_138 (by decide) ?_
        refine wp_isub (pc := 140) dX12_told_140 ?_
        refine wp_aload_n (pc := 141) dX12_told_141 rfl rfl ?_
        refine wp_get (pc := 142) dX12_told_142 fl_X12_44_13 hM.1 rfl ?_
        refine wp_iload_n (pc := 145) dX12_told_145 rfl rfl ?_
        refine wp_iald (pc := 146) (i := j) dX12_told_146 (hM.i 16 rfl) ⟨rfl, by omega, by decide⟩ ?_
        refine wp_icmp_ge (pc := 147) (tgt := 167) dX12_told_147 (by decide) (fun c147 => ?_) (fun c147 => ?_)
        · skip
          refine wp_iconst (pc := 167) (v := (-1)) dX12_told_167 (by decide) ?_
          exact wp_iret (pc := 168) dX12_told_168 rfl ⟨by rw [f_told]; simp only [hTx, e1, c5, c9, if_true, if_false, Bool.true_eq_false, Bool.false_eq_true, reduceIte, reduceCtorEq, Bool.not_true, Bool.not_false, true_and, and_true, and_false, false_and, or_true, true_or, or_false, false_or, not_true_eq_false, not_false_eq_true]; rw [if_neg (sw_ne c16 (by decide)), if_neg (sw_ne c16 (by decide)), if_neg (sw_ne c16 (by decide)), if_neg (sw_ne c16 (by decide)), if_neg (sw_ne c16 (by decide)), if_neg (sw_ne c16 (by decide)), if_neg (sw_ne c16 (by decide)), if_neg (sw_ne c16 (by decide)), if_neg (sw_ne c16 (by decide))]; simp only [eq_true c147, hnx, if_true, if_false, Bool.true_eq_false, Bool.false_eq_true, reduceIte, reduceCtorEq, Bool.not_true, Bool.not_false, true_and, and_true, and_false, false_and, or_true, true_or, or_false, false_or, not_true_eq_false, not_false_eq_true], hM, hF⟩
        · have hnq : n - 9 < q := by
            rw [hw9, hq, nI_leI (by omega) (by omega)] at c147
            omega
          refine wp_aload_n (pc := 150) dX12_told_150 rfl rfl ?_
          refine wp_get (pc := 151) dX12_told_151 fl_X12_47_13 hM.1 rfl ?_
          refine wp_bipush (pc := 154) (v := 8) dX12_told_154 (by decide) ?_
          refine wp_iload_n (pc := 156) dX12_told_156 rfl rfl ?_
          refine wp_imul (pc := 157) dX12_told_157 ?_
          refine wp_iload_n (pc := 158) dX12_told_158 rfl rfl ?_
          refine wp_iadd (pc := 159) dX12_told_159 ?_
          refine wp_bipush (pc := 160) (v := 9) dX12_told_160 (by decide) ?_
          refine wp_isub (pc := 162) dX12_told_162 ?_
          refine wp_iald (pc := 163) (i := 8 * j + (n - 9)) dX12_told_163 (hM.i 17 rfl) (tw_ix h9 hwn (by omega) hq2 hnq) ?_
          refine wp_goto (pc := 164) (tgt := 168) dX12_told_164 (by decide) ?_
          exact wp_iret (pc := 168) dX12_told_168 rfl ⟨by rw [f_told]; simp only [hTx, e1, c5, c9, if_true, if_false, Bool.true_eq_false, Bool.false_eq_true, reduceIte, reduceCtorEq, Bool.not_true, Bool.not_false, true_and, and_true, and_false, false_and, or_true, true_or, or_false, false_or, not_true_eq_false, not_false_eq_true]; rw [if_neg (sw_ne c16 (by decide)), if_neg (sw_ne c16 (by decide)), if_neg (sw_ne c16 (by decide)), if_neg (sw_ne c16 (by decide)), if_neg (sw_ne c16 (by decide)), if_neg (sw_ne c16 (by decide)), if_neg (sw_ne c16 (by decide)), if_neg (sw_ne c16 (by decide)), if_neg (sw_ne c16 (by decide))]; simp only [eq_false c147, hnx, if_true, if_false, Bool.true_eq_false, Bool.false_eq_true, reduceIte, reduceCtorEq, Bool.not_true, Bool.not_false, true_and, and_true, and_false, false_and, or_true, true_or, or_false, false_or, not_true_eq_false, not_false_eq_true], hM, hF⟩
    · skip
      refine wp_bipush (pc := 12) (v := (-2)) dX12_told_12 (by decide) ?_
      exact wp_iret (pc := 14) dX12_told_14 rfl ⟨by simp only [f_told, hTx, c5, eq_false c9, if_true, if_false, Bool.true_eq_false, Bool.false_eq_true, reduceIte, reduceCtorEq, Bool.not_true, Bool.not_false, true_and, and_true, and_false, false_and, or_true, true_or, or_false, false_or, not_true_eq_false, not_false_eq_true], hM, hF⟩
theorem ms_holds (w : Int32) (v : Int32) (what : Int32)  {N : Nat} (hT : M.1 11 = nI N) (hT2 : N ≤ 20) {W : Nat} (hW : M.1 6 = nI W) (hW2 : W ≤ 20) : MSp l G x am mX12_holds [.int w, .int v, .int what] M (some (.int (f_holds M w v what))) M := by
  refine MSp.intro (lv := [_, _, _, _, _]) (by decide) rfl (Nat.le_of_ble_eq_true rfl) (fun h0 h hM hF => ?_)
  have hTx : nx (M.1 11) = N := by rw [hT]; exact nx_nI (by omega)
  have hWx : nx (M.1 6) = W := by rw [hW]; exact nx_nI (by omega)
  refine wp_aload_n (pc := 0) dX12_holds_0 rfl rfl ?_
  refine wp_iload_n (pc := 1) dX12_holds_1 rfl rfl ?_
  refine mp_call (pc := 2) [_] dX12_holds_2 rfl cv_X12_191_13 rfl ⟨(Nat.le_of_ble_eq_true rfl), (Nat.le_of_ble_eq_true rfl)⟩ (Nat.le_of_ble_eq_true rfl) ⟨rfl, rfl⟩ (ms_isWorker l G x am _ _ (by exact hW) hW2) hM hF (fun h hM hF => ?_)
  refine wp_ifB_eq (pc := 5) (tgt := 25) dX12_holds_5 (by decide) (fun c5 => ?_) (fun c5 => ?_)
  · skip
    refine wp_bipush (pc := 25) (v := (-2)) dX12_holds_25 (by decide) ?_
    exact wp_iret (pc := 27) dX12_holds_27 rfl ⟨by first | (simp only [f_holds, hWx, hTx, e1, e2, c5, if_true, if_false, Bool.true_eq_false, Bool.false_eq_true, reduceIte, reduceCtorEq, Bool.not_true, Bool.not_false, true_and, and_true, and_false, false_and, or_true, true_or, or_false, false_or, not_true_eq_false, not_false_eq_true]; done) | (simp only [f_holds, hWx, hTx, e1, c5, if_true, if_false, Bool.true_eq_false, Bool.false_eq_true, reduceIte, reduceCtorEq, Bool.not_true, Bool.not_false, true_and, and_true, and_false, false_and, or_true, true_or, or_false, false_or, not_true_eq_false, not_false_eq_true]; done) | (simp only [f_holds, hWx, hTx, c5, if_true, if_false, Bool.true_eq_false, Bool.false_eq_true, reduceIte, reduceCtorEq, Bool.not_true, Bool.not_false, true_and, and_true, and_false, false_and, or_true, true_or, or_false, false_or, not_true_eq_false, not_false_eq_true]; done), hM, hF⟩
  · obtain ⟨a, ha, rfl⟩ := isIx_t c5 (by omega)
    have e1 : nx (nI a) = a := nx_nI (by omega)
    refine wp_aload_n (pc := 8) dX12_holds_8 rfl rfl ?_
    refine wp_iload_n (pc := 9) dX12_holds_9 rfl rfl ?_
    refine mp_call (pc := 10) [_] dX12_holds_10 rfl cv_X12_214_13 rfl ⟨(Nat.le_of_ble_eq_true rfl), (Nat.le_of_ble_eq_true rfl)⟩ (Nat.le_of_ble_eq_true rfl) ⟨rfl, rfl⟩ (ms_isThing l G x am _ _ (by exact hT) hT2) hM hF (fun h hM hF => ?_)
    refine wp_ifB_eq (pc := 13) (tgt := 25) dX12_holds_13 (by decide) (fun c13 => ?_) (fun c13 => ?_)
    · skip
      refine wp_bipush (pc := 25) (v := (-2)) dX12_holds_25 (by decide) ?_
      exact wp_iret (pc := 27) dX12_holds_27 rfl ⟨by first | (simp only [f_holds, hWx, hTx, e1, e2, c5, c13, if_true, if_false, Bool.true_eq_false, Bool.false_eq_true, reduceIte, reduceCtorEq, Bool.not_true, Bool.not_false, true_and, and_true, and_false, false_and, or_true, true_or, or_false, false_or, not_true_eq_false, not_false_eq_true]; done) | (simp only [f_holds, hWx, hTx, e1, c5, c13, if_true, if_false, Bool.true_eq_false, Bool.false_eq_true, reduceIte, reduceCtorEq, Bool.not_true, Bool.not_false, true_and, and_true, and_false, false_and, or_true, true_or, or_false, false_or, not_true_eq_false, not_false_eq_true]; done) | (simp only [f_holds, hWx, hTx, c5, c13, if_true, if_false, Bool.true_eq_false, Bool.false_eq_true, reduceIte, reduceCtorEq, Bool.not_true, Bool.not_false, true_and, and_true, and_false, false_and, or_true, true_or, or_false, false_or, not_true_eq_false, not_false_eq_true]; done), hM, hF⟩
    · obtain ⟨b, hb, rfl⟩ := isIx_t c13 (by omega)
      have e2 : nx (nI b) = b := nx_nI (by omega)
      refine wp_iload_n (pc := 16) dX12_holds_16 rfl rfl ?_
      refine wp_iconst (pc := 17) (v := 0) dX12_holds_17 (by decide) ?_
      refine wp_iconst (pc := 18) (v := 4) dX12_holds_18 (by decide) ?_
      refine mp_callS (pc := 19) [_, _, _] dX12_holds_19 rfl cs_X12_153 rfl ⟨(Nat.le_of_ble_eq_true rfl), (Nat.le_of_ble_eq_true rfl)⟩ (Nat.le_of_ble_eq_true rfl) ⟨rfl, rfl⟩ (ms_in l G _ _ _ h) ?_
      refine wp_ifB_ne (pc := 22) (tgt := 28) dX12_holds_22 (by decide) (fun c22 => ?_) (fun c22 => ?_)
      · skip
        refine wp_bipush (pc := 28) (v := 20) dX12_holds_28 (by decide) ?_
        refine wp_iload_n (pc := 30) dX12_holds_30 rfl rfl ?_
        refine wp_imul (pc := 31) dX12_holds_31 ?_
        refine wp_iload_n (pc := 32) dX12_holds_32 rfl rfl ?_
        refine wp_iadd (pc := 33) dX12_holds_33 ?_
        refine wp_istore (pc := 34) (lv' := [_, _, _, _, _]) dX12_holds_34 (Nat.le_of_ble_eq_true rfl) rfl rfl ?_
        refine wp_iload_n (pc := 36) dX12_holds_36 rfl rfl ?_
        refine wp_tsw_0_3 (pc := 37) dX12_holds_37 (t0 := 68) (t1 := 83) (t2 := 99) (t3 := 121) (td := 143) (by decide) (by decide) (by decide) (by decide) (by decide) (fun c37 => ?_) (fun c37 => ?_) (fun c37 => ?_) (fun c37 => ?_) (fun c37 => ?_)
        · skip
          refine wp_aload_n (pc := 68) dX12_holds_68 rfl rfl ?_
          refine wp_iload_n (pc := 69) dX12_holds_69 rfl rfl ?_
          refine wp_iload_n (pc := 70) dX12_holds_70 rfl rfl ?_
          refine mp_call (pc := 71) [_, _] dX12_holds_71 rfl cv_X12_303_13 rfl ⟨(Nat.le_of_ble_eq_true rfl), (Nat.le_of_ble_eq_true rfl)⟩ (Nat.le_of_ble_eq_true rfl) ⟨rfl, rfl⟩ (ms_may l G x am _ _ _ (by omega) (by omega)) hM hF (fun h hM hF => ?_)
          refine wp_ifB_eq (pc := 74) (tgt := 81) dX12_holds_74 (by decide) (fun c74 => ?_) (fun c74 => ?_)
          · skip
            refine wp_iconst (pc := 81) (v := 0) dX12_holds_81 (by decide) ?_
            exact wp_iret (pc := 82) dX12_holds_82 rfl ⟨by subst c37; simp only [f_holds, hWx, hTx, e1, e2, bi, c5, c13, c22, c74, if_true, if_false, Bool.true_eq_false, Bool.false_eq_true, reduceIte, reduceCtorEq, Bool.not_true, Bool.not_false, true_and, and_true, and_false, false_and, or_true, true_or, or_false, false_or, not_true_eq_false, not_false_eq_true] <;> rfl, hM, hF⟩
          · skip
            refine wp_iconst (pc := 77) (v := 1) dX12_holds_77 (by decide) ?_
            refine wp_goto (pc := 78) (tgt := 82) dX12_holds_78 (by decide) ?_
            exact wp_iret (pc := 82) dX12_holds_82 rfl ⟨by subst c37; simp only [f_holds, hWx, hTx, e1, e2, bi, c5, c13, c22, c74, if_true, if_false, Bool.true_eq_false, Bool.false_eq_true, reduceIte, reduceCtorEq, Bool.not_true, Bool.not_false, true_and, and_true, and_false, false_and, or_true, true_or, or_false, false_or, not_true_eq_false, not_false_eq_true] <;> rfl, hM, hF⟩
        · skip
          refine wp_aload_n (pc := 83) dX12_holds_83 rfl rfl ?_
          refine wp_get (pc := 84) dX12_holds_84 fl_X12_82_13 hM.1 rfl ?_
          refine wp_iload (pc := 87) dX12_holds_87 rfl ?_
          refine wp_zald (pc := 89) (i := ((20 * a) + b)) dX12_holds_89 (hM.z 29 rfl) ⟨by simp only [nl1, nl5, nl8, nl20, pk_mul, nI_add], by omega, by decide⟩ ?_
          refine wp_if_eq (pc := 90) (tgt := 97) dX12_holds_90 (by decide) (fun c90 => ?_) (fun c90 => ?_)
          · skip
            refine wp_iconst (pc := 97) (v := 0) dX12_holds_97 (by decide) ?_
            exact wp_iret (pc := 98) dX12_holds_98 rfl ⟨by subst c37; simp only [f_holds, hWx, hTx, e1, e2, bi, c5, c13, c22, eq_true c90, if_true, if_false, Bool.true_eq_false, Bool.false_eq_true, reduceIte, reduceCtorEq, Bool.not_true, Bool.not_false, true_and, and_true, and_false, false_and, or_true, true_or, or_false, false_or, not_true_eq_false, not_false_eq_true] <;> rfl, hM, hF⟩
          · skip
            refine wp_iconst (pc := 93) (v := 1) dX12_holds_93 (by decide) ?_
            refine wp_goto (pc := 94) (tgt := 98) dX12_holds_94 (by decide) ?_
            exact wp_iret (pc := 98) dX12_holds_98 rfl ⟨by subst c37; simp only [f_holds, hWx, hTx, e1, e2, bi, c5, c13, c22, eq_false c90, if_true, if_false, Bool.true_eq_false, Bool.false_eq_true, reduceIte, reduceCtorEq, Bool.not_true, Bool.not_false, true_and, and_true, and_false, false_and, or_true, true_or, or_false, false_or, not_true_eq_false, not_false_eq_true] <;> rfl, hM, hF⟩
        · skip
          refine wp_aload_n (pc := 99) dX12_holds_99 rfl rfl ?_
          refine wp_get (pc := 100) dX12_holds_100 fl_X12_82_13 hM.1 rfl ?_
          refine wp_iload (pc := 103) dX12_holds_103 rfl ?_
          refine wp_zald (pc := 105) (i := ((20 * a) + b)) dX12_holds_105 (hM.z 29 rfl) ⟨by simp only [nl1, nl5, nl8, nl20, pk_mul, nI_add], by omega, by decide⟩ ?_
          refine wp_if_eq (pc := 106) (tgt := 119) dX12_holds_106 (by decide) (fun c106 => ?_) (fun c106 => ?_)
          · skip
            refine wp_iconst (pc := 119) (v := (-1)) dX12_holds_119 (by decide) ?_
            exact wp_iret (pc := 120) dX12_holds_120 rfl ⟨by subst c37; simp only [f_holds, hWx, hTx, e1, e2, bi, c5, c13, c22, eq_true c106, if_true, if_false, Bool.true_eq_false, Bool.false_eq_true, reduceIte, reduceCtorEq, Bool.not_true, Bool.not_false, true_and, and_true, and_false, false_and, or_true, true_or, or_false, false_or, not_true_eq_false, not_false_eq_true] <;> rfl, hM, hF⟩
          · skip
            refine wp_aload_n (pc := 109) dX12_holds_109 rfl rfl ?_
            refine wp_get (pc := 110) dX12_holds_110 fl_X12_85_13 hM.1 rfl ?_
            refine wp_iload (pc := 113) dX12_holds_113 rfl ?_
            refine wp_iald (pc := 115) (i := ((20 * a) + b)) dX12_holds_115 (hM.i 30 rfl) ⟨by simp only [nl1, nl5, nl8, nl20, pk_mul, nI_add], by omega, by decide⟩ ?_
            refine wp_goto (pc := 116) (tgt := 120) dX12_holds_116 (by decide) ?_
            exact wp_iret (pc := 120) dX12_holds_120 rfl ⟨by subst c37; simp only [f_holds, hWx, hTx, e1, e2, bi, c5, c13, c22, eq_false c106, if_true, if_false, Bool.true_eq_false, Bool.false_eq_true, reduceIte, reduceCtorEq, Bool.not_true, Bool.not_false, true_and, and_true, and_false, false_and, or_true, true_or, or_false, false_or, not_true_eq_false, not_false_eq_true] <;> rfl, hM, hF⟩
        · skip
          refine wp_aload_n (pc := 121) dX12_holds_121 rfl rfl ?_
          refine wp_get (pc := 122) dX12_holds_122 fl_X12_82_13 hM.1 rfl ?_
          refine wp_iload (pc := 125) dX12_holds_125 rfl ?_
          refine wp_zald (pc := 127) (i := ((20 * a) + b)) dX12_holds_127 (hM.z 29 rfl) ⟨by simp only [nl1, nl5, nl8, nl20, pk_mul, nI_add], by omega, by decide⟩ ?_
          refine wp_if_eq (pc := 128) (tgt := 141) dX12_holds_128 (by decide) (fun c128 => ?_) (fun c128 => ?_)
          · skip
            refine wp_iconst (pc := 141) (v := (-1)) dX12_holds_141 (by decide) ?_
            exact wp_iret (pc := 142) dX12_holds_142 rfl ⟨by subst c37; simp only [f_holds, hWx, hTx, e1, e2, bi, c5, c13, c22, eq_true c128, if_true, if_false, Bool.true_eq_false, Bool.false_eq_true, reduceIte, reduceCtorEq, Bool.not_true, Bool.not_false, true_and, and_true, and_false, false_and, or_true, true_or, or_false, false_or, not_true_eq_false, not_false_eq_true] <;> rfl, hM, hF⟩
          · skip
            refine wp_aload_n (pc := 131) dX12_holds_131 rfl rfl ?_
            refine wp_get (pc := 132) dX12_holds_132 fl_X12_88_13 hM.1 rfl ?_
            refine wp_iload (pc := 135) dX12_holds_135 rfl ?_
            refine wp_iald (pc := 137) (i := ((20 * a) + b)) dX12_holds_137 (hM.i 31 rfl) ⟨by simp only [nl1, nl5, nl8, nl20, pk_mul, nI_add], by omega, by decide⟩ ?_
            refine wp_goto (pc := 138) (tgt := 142) dX12_holds_138 (by decide) ?_
            exact wp_iret (pc := 142) dX12_holds_142 rfl ⟨by subst c37; simp only [f_holds, hWx, hTx, e1, e2, bi, c5, c13, c22, eq_false c128, if_true, if_false, Bool.true_eq_false, Bool.false_eq_true, reduceIte, reduceCtorEq, Bool.not_true, Bool.not_false, true_and, and_true, and_false, false_and, or_true, true_or, or_false, false_or, not_true_eq_false, not_false_eq_true] <;> rfl, hM, hF⟩
        · skip
          refine wp_aload_n (pc := 143) dX12_holds_143 rfl rfl ?_
          refine wp_get (pc := 144) dX12_holds_144 fl_X12_91_13 hM.1 rfl ?_
          refine wp_iload (pc := 147) dX12_holds_147 rfl ?_
          refine wp_iald (pc := 149) (i := ((20 * a) + b)) dX12_holds_149 (hM.i 32 rfl) ⟨by simp only [nl1, nl5, nl8, nl20, pk_mul, nI_add], by omega, by decide⟩ ?_
          refine wp_if_eq (pc := 150) (tgt := 157) dX12_holds_150 (by decide) (fun c150 => ?_) (fun c150 => ?_)
          · skip
            refine wp_iconst (pc := 157) (v := 0) dX12_holds_157 (by decide) ?_
            exact wp_iret (pc := 158) dX12_holds_158 rfl ⟨by rw [f_holds]; simp only [hWx, hTx, e1, e2, c5, c13, c22, eq_true c150, if_true, if_false, Bool.true_eq_false, Bool.false_eq_true, reduceIte, reduceCtorEq, Bool.not_true, Bool.not_false, true_and, and_true, and_false, false_and, or_true, true_or, or_false, false_or, not_true_eq_false, not_false_eq_true]; rw [if_neg (sw_ne c37 (by decide)), if_neg (sw_ne c37 (by decide)), if_neg (sw_ne c37 (by decide)), if_neg (sw_ne c37 (by decide))], hM, hF⟩
          · skip
            refine wp_iconst (pc := 153) (v := 1) dX12_holds_153 (by decide) ?_
            refine wp_goto (pc := 154) (tgt := 158) dX12_holds_154 (by decide) ?_
            exact wp_iret (pc := 158) dX12_holds_158 rfl ⟨by rw [f_holds]; simp only [hWx, hTx, e1, e2, c5, c13, c22, eq_false c150, if_true, if_false, Bool.true_eq_false, Bool.false_eq_true, reduceIte, reduceCtorEq, Bool.not_true, Bool.not_false, true_and, and_true, and_false, false_and, or_true, true_or, or_false, false_or, not_true_eq_false, not_false_eq_true]; rw [if_neg (sw_ne c37 (by decide)), if_neg (sw_ne c37 (by decide)), if_neg (sw_ne c37 (by decide)), if_neg (sw_ne c37 (by decide))], hM, hF⟩
      · skip
        refine wp_bipush (pc := 25) (v := (-2)) dX12_holds_25 (by decide) ?_
        exact wp_iret (pc := 27) dX12_holds_27 rfl ⟨by first | (simp only [f_holds, hWx, hTx, e1, e2, c5, c13, c22, if_true, if_false, Bool.true_eq_false, Bool.false_eq_true, reduceIte, reduceCtorEq, Bool.not_true, Bool.not_false, true_and, and_true, and_false, false_and, or_true, true_or, or_false, false_or, not_true_eq_false, not_false_eq_true]; done) | (simp only [f_holds, hWx, hTx, e1, c5, c13, c22, if_true, if_false, Bool.true_eq_false, Bool.false_eq_true, reduceIte, reduceCtorEq, Bool.not_true, Bool.not_false, true_and, and_true, and_false, false_and, or_true, true_or, or_false, false_or, not_true_eq_false, not_false_eq_true]; done) | (simp only [f_holds, hWx, hTx, c5, c13, c22, if_true, if_false, Bool.true_eq_false, Bool.false_eq_true, reduceIte, reduceCtorEq, Bool.not_true, Bool.not_false, true_and, and_true, and_false, false_and, or_true, true_or, or_false, false_or, not_true_eq_false, not_false_eq_true]; done), hM, hF⟩
theorem ms_held (w : Int32) (v : Int32) (what : Int32)  {N : Nat} (hT : M.1 11 = nI N) (hT2 : N ≤ 20) {W : Nat} (hW : M.1 6 = nI W) (hW2 : W ≤ 20) : MSp l G x am mX12_held [.int w, .int v, .int what] M (some (.long (f_held M w v what))) M := by
  refine MSp.intro (lv := [_, _, _, _]) (by decide) rfl (Nat.le_of_ble_eq_true rfl) (fun h0 h hM hF => ?_)
  have hTx : nx (M.1 11) = N := by rw [hT]; exact nx_nI (by omega)
  have hWx : nx (M.1 6) = W := by rw [hW]; exact nx_nI (by omega)
  refine wp_aload_n (pc := 0) dX12_held_0 rfl rfl ?_
  refine wp_iload_n (pc := 1) dX12_held_1 rfl rfl ?_
  refine mp_call (pc := 2) [_] dX12_held_2 rfl cv_X12_191_13 rfl ⟨(Nat.le_of_ble_eq_true rfl), (Nat.le_of_ble_eq_true rfl)⟩ (Nat.le_of_ble_eq_true rfl) ⟨rfl, rfl⟩ (ms_isWorker l G x am _ _ (by exact hW) hW2) hM hF (fun h hM hF => ?_)
  refine wp_ifB_eq (pc := 5) (tgt := 39) dX12_held_5 (by decide) (fun c5 => ?_) (fun c5 => ?_)
  · skip
    refine wp_ldc2_w (pc := 39) dX12_held_39 w6_61 ?_
    exact wp_lret (pc := 42) dX12_held_42 rfl ⟨by first | (simp only [f_held, hWx, hTx, e1, e2, c5, if_true, if_false, Bool.true_eq_false, Bool.false_eq_true, reduceIte, reduceCtorEq, Bool.not_true, Bool.not_false, true_and, and_true, and_false, false_and, or_true, true_or, or_false, false_or, not_true_eq_false, not_false_eq_true]; done) | (simp only [f_held, hWx, hTx, e1, c5, if_true, if_false, Bool.true_eq_false, Bool.false_eq_true, reduceIte, reduceCtorEq, Bool.not_true, Bool.not_false, true_and, and_true, and_false, false_and, or_true, true_or, or_false, false_or, not_true_eq_false, not_false_eq_true]; done) | (simp only [f_held, hWx, hTx, c5, if_true, if_false, Bool.true_eq_false, Bool.false_eq_true, reduceIte, reduceCtorEq, Bool.not_true, Bool.not_false, true_and, and_true, and_false, false_and, or_true, true_or, or_false, false_or, not_true_eq_false, not_false_eq_true]; done) | (simp only [f_held, hWx, hTx, e1, e2, c5, if_true, if_false, Bool.true_eq_false, Bool.false_eq_true, reduceIte, reduceCtorEq, Bool.not_true, Bool.not_false, true_and, and_true, and_false, false_and, or_true, true_or, or_false, false_or, not_true_eq_false, not_false_eq_true] <;> rfl) | (simp only [f_held, hWx, hTx, e1, c5, if_true, if_false, Bool.true_eq_false, Bool.false_eq_true, reduceIte, reduceCtorEq, Bool.not_true, Bool.not_false, true_and, and_true, and_false, false_and, or_true, true_or, or_false, false_or, not_true_eq_false, not_false_eq_true] <;> rfl) | (simp only [f_held, hWx, hTx, c5, if_true, if_false, Bool.true_eq_false, Bool.false_eq_true, reduceIte, reduceCtorEq, Bool.not_true, Bool.not_false, true_and, and_true, and_false, false_and, or_true, true_or, or_false, false_or, not_true_eq_false, not_false_eq_true] <;> rfl), hM, hF⟩
  · obtain ⟨a, ha, rfl⟩ := isIx_t c5 (by omega)
    have e1 : nx (nI a) = a := nx_nI (by omega)
    refine wp_aload_n (pc := 8) dX12_held_8 rfl rfl ?_
    refine wp_iload_n (pc := 9) dX12_held_9 rfl rfl ?_
    refine mp_call (pc := 10) [_] dX12_held_10 rfl cv_X12_214_13 rfl ⟨(Nat.le_of_ble_eq_true rfl), (Nat.le_of_ble_eq_true rfl)⟩ (Nat.le_of_ble_eq_true rfl) ⟨rfl, rfl⟩ (ms_isThing l G x am _ _ (by exact hT) hT2) hM hF (fun h hM hF => ?_)
    refine wp_ifB_eq (pc := 13) (tgt := 39) dX12_held_13 (by decide) (fun c13 => ?_) (fun c13 => ?_)
    · skip
      refine wp_ldc2_w (pc := 39) dX12_held_39 w6_61 ?_
      exact wp_lret (pc := 42) dX12_held_42 rfl ⟨by first | (simp only [f_held, hWx, hTx, e1, e2, c5, c13, if_true, if_false, Bool.true_eq_false, Bool.false_eq_true, reduceIte, reduceCtorEq, Bool.not_true, Bool.not_false, true_and, and_true, and_false, false_and, or_true, true_or, or_false, false_or, not_true_eq_false, not_false_eq_true]; done) | (simp only [f_held, hWx, hTx, e1, c5, c13, if_true, if_false, Bool.true_eq_false, Bool.false_eq_true, reduceIte, reduceCtorEq, Bool.not_true, Bool.not_false, true_and, and_true, and_false, false_and, or_true, true_or, or_false, false_or, not_true_eq_false, not_false_eq_true]; done) | (simp only [f_held, hWx, hTx, c5, c13, if_true, if_false, Bool.true_eq_false, Bool.false_eq_true, reduceIte, reduceCtorEq, Bool.not_true, Bool.not_false, true_and, and_true, and_false, false_and, or_true, true_or, or_false, false_or, not_true_eq_false, not_false_eq_true]; done) | (simp only [f_held, hWx, hTx, e1, e2, c5, c13, if_true, if_false, Bool.true_eq_false, Bool.false_eq_true, reduceIte, reduceCtorEq, Bool.not_true, Bool.not_false, true_and, and_true, and_false, false_and, or_true, true_or, or_false, false_or, not_true_eq_false, not_false_eq_true] <;> rfl) | (simp only [f_held, hWx, hTx, e1, c5, c13, if_true, if_false, Bool.true_eq_false, Bool.false_eq_true, reduceIte, reduceCtorEq, Bool.not_true, Bool.not_false, true_and, and_true, and_false, false_and, or_true, true_or, or_false, false_or, not_true_eq_false, not_false_eq_true] <;> rfl) | (simp only [f_held, hWx, hTx, c5, c13, if_true, if_false, Bool.true_eq_false, Bool.false_eq_true, reduceIte, reduceCtorEq, Bool.not_true, Bool.not_false, true_and, and_true, and_false, false_and, or_true, true_or, or_false, false_or, not_true_eq_false, not_false_eq_true] <;> rfl), hM, hF⟩
    · obtain ⟨b, hb, rfl⟩ := isIx_t c13 (by omega)
      have e2 : nx (nI b) = b := nx_nI (by omega)
      refine wp_iload_n (pc := 16) dX12_held_16 rfl rfl ?_
      refine wp_iconst (pc := 17) (v := 0) dX12_held_17 (by decide) ?_
      refine wp_iconst (pc := 18) (v := 1) dX12_held_18 (by decide) ?_
      refine mp_callS (pc := 19) [_, _, _] dX12_held_19 rfl cs_X12_153 rfl ⟨(Nat.le_of_ble_eq_true rfl), (Nat.le_of_ble_eq_true rfl)⟩ (Nat.le_of_ble_eq_true rfl) ⟨rfl, rfl⟩ (ms_in l G _ _ _ h) ?_
      refine wp_ifB_eq (pc := 22) (tgt := 39) dX12_held_22 (by decide) (fun c22 => ?_) (fun c22 => ?_)
      · skip
        refine wp_ldc2_w (pc := 39) dX12_held_39 w6_61 ?_
        exact wp_lret (pc := 42) dX12_held_42 rfl ⟨by first | (simp only [f_held, hWx, hTx, e1, e2, c5, c13, c22, if_true, if_false, Bool.true_eq_false, Bool.false_eq_true, reduceIte, reduceCtorEq, Bool.not_true, Bool.not_false, true_and, and_true, and_false, false_and, or_true, true_or, or_false, false_or, not_true_eq_false, not_false_eq_true]; done) | (simp only [f_held, hWx, hTx, e1, c5, c13, c22, if_true, if_false, Bool.true_eq_false, Bool.false_eq_true, reduceIte, reduceCtorEq, Bool.not_true, Bool.not_false, true_and, and_true, and_false, false_and, or_true, true_or, or_false, false_or, not_true_eq_false, not_false_eq_true]; done) | (simp only [f_held, hWx, hTx, c5, c13, c22, if_true, if_false, Bool.true_eq_false, Bool.false_eq_true, reduceIte, reduceCtorEq, Bool.not_true, Bool.not_false, true_and, and_true, and_false, false_and, or_true, true_or, or_false, false_or, not_true_eq_false, not_false_eq_true]; done) | (simp only [f_held, hWx, hTx, e1, e2, c5, c13, c22, if_true, if_false, Bool.true_eq_false, Bool.false_eq_true, reduceIte, reduceCtorEq, Bool.not_true, Bool.not_false, true_and, and_true, and_false, false_and, or_true, true_or, or_false, false_or, not_true_eq_false, not_false_eq_true] <;> rfl) | (simp only [f_held, hWx, hTx, e1, c5, c13, c22, if_true, if_false, Bool.true_eq_false, Bool.false_eq_true, reduceIte, reduceCtorEq, Bool.not_true, Bool.not_false, true_and, and_true, and_false, false_and, or_true, true_or, or_false, false_or, not_true_eq_false, not_false_eq_true] <;> rfl) | (simp only [f_held, hWx, hTx, c5, c13, c22, if_true, if_false, Bool.true_eq_false, Bool.false_eq_true, reduceIte, reduceCtorEq, Bool.not_true, Bool.not_false, true_and, and_true, and_false, false_and, or_true, true_or, or_false, false_or, not_true_eq_false, not_false_eq_true] <;> rfl), hM, hF⟩
      · skip
        refine wp_aload_n (pc := 25) dX12_held_25 rfl rfl ?_
        refine wp_get (pc := 26) dX12_held_26 fl_X12_82_13 hM.1 rfl ?_
        refine wp_bipush (pc := 29) (v := 20) dX12_held_29 (by decide) ?_
        refine wp_iload_n (pc := 31) dX12_held_31 rfl rfl ?_
        refine wp_imul (pc := 32) dX12_held_32 ?_
        refine wp_iload_n (pc := 33) dX12_held_33 rfl rfl ?_
        refine wp_iadd (pc := 34) dX12_held_34 ?_
        refine wp_zald (pc := 35) (i := ((20 * a) + b)) dX12_held_35 (hM.z 29 rfl) ⟨by simp only [nl1, nl5, nl8, nl20, pk_mul, nI_add], by omega, by decide⟩ ?_
        refine wp_if_ne (pc := 36) (tgt := 43) dX12_held_36 (by decide) (fun c36 => ?_) (fun c36 => ?_)
        · skip
          refine wp_iload_n (pc := 43) dX12_held_43 rfl rfl ?_
          refine wp_if_ne (pc := 44) (tgt := 61) dX12_held_44 (by decide) (fun c44 => ?_) (fun c44 => ?_)
          · skip
            refine wp_aload_n (pc := 61) dX12_held_61 rfl rfl ?_
            refine wp_get (pc := 62) dX12_held_62 fl_X12_97_13 hM.1 rfl ?_
            refine wp_bipush (pc := 65) (v := 20) dX12_held_65 (by decide) ?_
            refine wp_iload_n (pc := 67) dX12_held_67 rfl rfl ?_
            refine wp_imul (pc := 68) dX12_held_68 ?_
            refine wp_iload_n (pc := 69) dX12_held_69 rfl rfl ?_
            refine wp_iadd (pc := 70) dX12_held_70 ?_
            refine wp_lald (pc := 71) (i := ((20 * a) + b)) dX12_held_71 (hM.j 34 rfl) ⟨by simp only [nl1, nl5, nl8, nl20, pk_mul, nI_add], by omega, by decide⟩ ?_
            exact wp_lret (pc := 72) dX12_held_72 rfl ⟨by first | (simp only [f_held, hWx, hTx, e1, e2, c5, c13, c22, eq_false c36, eq_false c44, if_true, if_false, Bool.true_eq_false, Bool.false_eq_true, reduceIte, reduceCtorEq, Bool.not_true, Bool.not_false, true_and, and_true, and_false, false_and, or_true, true_or, or_false, false_or, not_true_eq_false, not_false_eq_true]; done) | (simp only [f_held, hWx, hTx, e1, c5, c13, c22, eq_false c36, eq_false c44, if_true, if_false, Bool.true_eq_false, Bool.false_eq_true, reduceIte, reduceCtorEq, Bool.not_true, Bool.not_false, true_and, and_true, and_false, false_and, or_true, true_or, or_false, false_or, not_true_eq_false, not_false_eq_true]; done) | (simp only [f_held, hWx, hTx, c5, c13, c22, eq_false c36, eq_false c44, if_true, if_false, Bool.true_eq_false, Bool.false_eq_true, reduceIte, reduceCtorEq, Bool.not_true, Bool.not_false, true_and, and_true, and_false, false_and, or_true, true_or, or_false, false_or, not_true_eq_false, not_false_eq_true]; done) | (simp only [f_held, hWx, hTx, e1, e2, c5, c13, c22, eq_false c36, eq_false c44, if_true, if_false, Bool.true_eq_false, Bool.false_eq_true, reduceIte, reduceCtorEq, Bool.not_true, Bool.not_false, true_and, and_true, and_false, false_and, or_true, true_or, or_false, false_or, not_true_eq_false, not_false_eq_true] <;> rfl) | (simp only [f_held, hWx, hTx, e1, c5, c13, c22, eq_false c36, eq_false c44, if_true, if_false, Bool.true_eq_false, Bool.false_eq_true, reduceIte, reduceCtorEq, Bool.not_true, Bool.not_false, true_and, and_true, and_false, false_and, or_true, true_or, or_false, false_or, not_true_eq_false, not_false_eq_true] <;> rfl) | (simp only [f_held, hWx, hTx, c5, c13, c22, eq_false c36, eq_false c44, if_true, if_false, Bool.true_eq_false, Bool.false_eq_true, reduceIte, reduceCtorEq, Bool.not_true, Bool.not_false, true_and, and_true, and_false, false_and, or_true, true_or, or_false, false_or, not_true_eq_false, not_false_eq_true] <;> rfl), hM, hF⟩
          · skip
            refine wp_aload_n (pc := 47) dX12_held_47 rfl rfl ?_
            refine wp_get (pc := 48) dX12_held_48 fl_X12_94_13 hM.1 rfl ?_
            refine wp_bipush (pc := 51) (v := 20) dX12_held_51 (by decide) ?_
            refine wp_iload_n (pc := 53) dX12_held_53 rfl rfl ?_
            refine wp_imul (pc := 54) dX12_held_54 ?_
            refine wp_iload_n (pc := 55) dX12_held_55 rfl rfl ?_
            refine wp_iadd (pc := 56) dX12_held_56 ?_
            refine wp_lald (pc := 57) (i := ((20 * a) + b)) dX12_held_57 (hM.j 33 rfl) ⟨by simp only [nl1, nl5, nl8, nl20, pk_mul, nI_add], by omega, by decide⟩ ?_
            refine wp_goto (pc := 58) (tgt := 72) dX12_held_58 (by decide) ?_
            exact wp_lret (pc := 72) dX12_held_72 rfl ⟨by first | (simp only [f_held, hWx, hTx, e1, e2, c5, c13, c22, eq_false c36, eq_true c44, if_true, if_false, Bool.true_eq_false, Bool.false_eq_true, reduceIte, reduceCtorEq, Bool.not_true, Bool.not_false, true_and, and_true, and_false, false_and, or_true, true_or, or_false, false_or, not_true_eq_false, not_false_eq_true]; done) | (simp only [f_held, hWx, hTx, e1, c5, c13, c22, eq_false c36, eq_true c44, if_true, if_false, Bool.true_eq_false, Bool.false_eq_true, reduceIte, reduceCtorEq, Bool.not_true, Bool.not_false, true_and, and_true, and_false, false_and, or_true, true_or, or_false, false_or, not_true_eq_false, not_false_eq_true]; done) | (simp only [f_held, hWx, hTx, c5, c13, c22, eq_false c36, eq_true c44, if_true, if_false, Bool.true_eq_false, Bool.false_eq_true, reduceIte, reduceCtorEq, Bool.not_true, Bool.not_false, true_and, and_true, and_false, false_and, or_true, true_or, or_false, false_or, not_true_eq_false, not_false_eq_true]; done) | (simp only [f_held, hWx, hTx, e1, e2, c5, c13, c22, eq_false c36, eq_true c44, if_true, if_false, Bool.true_eq_false, Bool.false_eq_true, reduceIte, reduceCtorEq, Bool.not_true, Bool.not_false, true_and, and_true, and_false, false_and, or_true, true_or, or_false, false_or, not_true_eq_false, not_false_eq_true] <;> rfl) | (simp only [f_held, hWx, hTx, e1, c5, c13, c22, eq_false c36, eq_true c44, if_true, if_false, Bool.true_eq_false, Bool.false_eq_true, reduceIte, reduceCtorEq, Bool.not_true, Bool.not_false, true_and, and_true, and_false, false_and, or_true, true_or, or_false, false_or, not_true_eq_false, not_false_eq_true] <;> rfl) | (simp only [f_held, hWx, hTx, c5, c13, c22, eq_false c36, eq_true c44, if_true, if_false, Bool.true_eq_false, Bool.false_eq_true, reduceIte, reduceCtorEq, Bool.not_true, Bool.not_false, true_and, and_true, and_false, false_and, or_true, true_or, or_false, false_or, not_true_eq_false, not_false_eq_true] <;> rfl), hM, hF⟩
        · skip
          refine wp_ldc2_w (pc := 39) dX12_held_39 w6_61 ?_
          exact wp_lret (pc := 42) dX12_held_42 rfl ⟨by first | (simp only [f_held, hWx, hTx, e1, e2, c5, c13, c22, eq_true c36, if_true, if_false, Bool.true_eq_false, Bool.false_eq_true, reduceIte, reduceCtorEq, Bool.not_true, Bool.not_false, true_and, and_true, and_false, false_and, or_true, true_or, or_false, false_or, not_true_eq_false, not_false_eq_true]; done) | (simp only [f_held, hWx, hTx, e1, c5, c13, c22, eq_true c36, if_true, if_false, Bool.true_eq_false, Bool.false_eq_true, reduceIte, reduceCtorEq, Bool.not_true, Bool.not_false, true_and, and_true, and_false, false_and, or_true, true_or, or_false, false_or, not_true_eq_false, not_false_eq_true]; done) | (simp only [f_held, hWx, hTx, c5, c13, c22, eq_true c36, if_true, if_false, Bool.true_eq_false, Bool.false_eq_true, reduceIte, reduceCtorEq, Bool.not_true, Bool.not_false, true_and, and_true, and_false, false_and, or_true, true_or, or_false, false_or, not_true_eq_false, not_false_eq_true]; done) | (simp only [f_held, hWx, hTx, e1, e2, c5, c13, c22, eq_true c36, if_true, if_false, Bool.true_eq_false, Bool.false_eq_true, reduceIte, reduceCtorEq, Bool.not_true, Bool.not_false, true_and, and_true, and_false, false_and, or_true, true_or, or_false, false_or, not_true_eq_false, not_false_eq_true] <;> rfl) | (simp only [f_held, hWx, hTx, e1, c5, c13, c22, eq_true c36, if_true, if_false, Bool.true_eq_false, Bool.false_eq_true, reduceIte, reduceCtorEq, Bool.not_true, Bool.not_false, true_and, and_true, and_false, false_and, or_true, true_or, or_false, false_or, not_true_eq_false, not_false_eq_true] <;> rfl) | (simp only [f_held, hWx, hTx, c5, c13, c22, eq_true c36, if_true, if_false, Bool.true_eq_false, Bool.false_eq_true, reduceIte, reduceCtorEq, Bool.not_true, Bool.not_false, true_and, and_true, and_false, false_and, or_true, true_or, or_false, false_or, not_true_eq_false, not_false_eq_true] <;> rfl), hM, hF⟩
theorem ms_write (w : Int32) (v : Int32) (s0 : Int32) (y : Int64)  {N : Nat} (hT : M.1 11 = nI N) (hT2 : N ≤ 20) {W : Nat} (hW : M.1 6 = nI W) (hW2 : W ≤ 20) {S : Nat} (hS : M.1 46 = nI S) (hS6 : S ≤ 6) : MSp l G x am mX12_write [.int w, .int v, .int s0, .long y] M (some (.int (f_write M w v s0 y).1)) (f_write M w v s0 y).2 := by
  refine MSp.intro (lv := [_, _, _, _, _, _, _, _]) (by decide) rfl (Nat.le_of_ble_eq_true rfl) (fun h0 h hM hF => ?_)
  have hTx : nx (M.1 11) = N := by rw [hT]; exact nx_nI (by omega)
  have hWx : nx (M.1 6) = W := by rw [hW]; exact nx_nI (by omega)
  have hSx : nx (M.1 46) = S := by rw [hS]; exact nx_nI (by omega)
  refine wp_aload_n (pc := 0) dX12_write_0 rfl rfl ?_
  refine wp_iload_n (pc := 1) dX12_write_1 rfl rfl ?_
  refine mp_call (pc := 2) [_] dX12_write_2 rfl cv_X12_191_13 rfl ⟨(Nat.le_of_ble_eq_true rfl), (Nat.le_of_ble_eq_true rfl)⟩ (Nat.le_of_ble_eq_true rfl) ⟨rfl, rfl⟩ (ms_isWorker l G x am _ _ (by exact hW) hW2) hM hF (fun h hM hF => ?_)
  refine wp_ifB_eq (pc := 5) (tgt := 24) dX12_write_5 (by decide) (fun c5 => ?_) (fun c5 => ?_)
  · skip
    refine wp_bipush (pc := 24) (v := (-2)) dX12_write_24 (by decide) ?_
    exact wp_iret (pc := 26) dX12_write_26 rfl ⟨by first | (simp only [f_write, hWx, hTx, hSx, e1, e2, e3, c5, if_true, if_false, Bool.true_eq_false, Bool.false_eq_true, reduceIte, reduceCtorEq, Bool.not_true, Bool.not_false, true_and, and_true, and_false, false_and, or_true, true_or, or_false, false_or, not_true_eq_false, not_false_eq_true]; done) | (simp only [f_write, hWx, hTx, hSx, e1, e2, c5, if_true, if_false, Bool.true_eq_false, Bool.false_eq_true, reduceIte, reduceCtorEq, Bool.not_true, Bool.not_false, true_and, and_true, and_false, false_and, or_true, true_or, or_false, false_or, not_true_eq_false, not_false_eq_true]; done) | (simp only [f_write, hWx, hTx, hSx, e1, c5, if_true, if_false, Bool.true_eq_false, Bool.false_eq_true, reduceIte, reduceCtorEq, Bool.not_true, Bool.not_false, true_and, and_true, and_false, false_and, or_true, true_or, or_false, false_or, not_true_eq_false, not_false_eq_true]; done) | (simp only [f_write, hWx, hTx, hSx, c5, if_true, if_false, Bool.true_eq_false, Bool.false_eq_true, reduceIte, reduceCtorEq, Bool.not_true, Bool.not_false, true_and, and_true, and_false, false_and, or_true, true_or, or_false, false_or, not_true_eq_false, not_false_eq_true]; done) | (simp only [f_write, hWx, hTx, hSx, e1, e2, e3, c5, if_true, if_false, Bool.true_eq_false, Bool.false_eq_true, reduceIte, reduceCtorEq, Bool.not_true, Bool.not_false, true_and, and_true, and_false, false_and, or_true, true_or, or_false, false_or, not_true_eq_false, not_false_eq_true] <;> rfl) | (simp only [f_write, hWx, hTx, hSx, e1, e2, c5, if_true, if_false, Bool.true_eq_false, Bool.false_eq_true, reduceIte, reduceCtorEq, Bool.not_true, Bool.not_false, true_and, and_true, and_false, false_and, or_true, true_or, or_false, false_or, not_true_eq_false, not_false_eq_true] <;> rfl) | (simp only [f_write, hWx, hTx, hSx, e1, c5, if_true, if_false, Bool.true_eq_false, Bool.false_eq_true, reduceIte, reduceCtorEq, Bool.not_true, Bool.not_false, true_and, and_true, and_false, false_and, or_true, true_or, or_false, false_or, not_true_eq_false, not_false_eq_true] <;> rfl) | (simp only [f_write, hWx, hTx, hSx, c5, if_true, if_false, Bool.true_eq_false, Bool.false_eq_true, reduceIte, reduceCtorEq, Bool.not_true, Bool.not_false, true_and, and_true, and_false, false_and, or_true, true_or, or_false, false_or, not_true_eq_false, not_false_eq_true] <;> rfl), by first | (simp only [f_write, hWx, hTx, hSx, e1, e2, e3, c5, if_true, if_false, Bool.true_eq_false, Bool.false_eq_true, reduceIte, reduceCtorEq, Bool.not_true, Bool.not_false, true_and, and_true, and_false, false_and, or_true, true_or, or_false, false_or, not_true_eq_false, not_false_eq_true] <;> exact hM) | (simp only [f_write, hWx, hTx, hSx, e1, e2, c5, if_true, if_false, Bool.true_eq_false, Bool.false_eq_true, reduceIte, reduceCtorEq, Bool.not_true, Bool.not_false, true_and, and_true, and_false, false_and, or_true, true_or, or_false, false_or, not_true_eq_false, not_false_eq_true] <;> exact hM) | (simp only [f_write, hWx, hTx, hSx, e1, c5, if_true, if_false, Bool.true_eq_false, Bool.false_eq_true, reduceIte, reduceCtorEq, Bool.not_true, Bool.not_false, true_and, and_true, and_false, false_and, or_true, true_or, or_false, false_or, not_true_eq_false, not_false_eq_true] <;> exact hM) | (simp only [f_write, hWx, hTx, hSx, c5, if_true, if_false, Bool.true_eq_false, Bool.false_eq_true, reduceIte, reduceCtorEq, Bool.not_true, Bool.not_false, true_and, and_true, and_false, false_and, or_true, true_or, or_false, false_or, not_true_eq_false, not_false_eq_true] <;> exact hM), hF⟩
  · obtain ⟨a, ha, rfl⟩ := isIx_t c5 (by omega)
    have e1 : nx (nI a) = a := nx_nI (by omega)
    refine wp_aload_n (pc := 8) dX12_write_8 rfl rfl ?_
    refine wp_iload_n (pc := 9) dX12_write_9 rfl rfl ?_
    refine mp_call (pc := 10) [_] dX12_write_10 rfl cv_X12_214_13 rfl ⟨(Nat.le_of_ble_eq_true rfl), (Nat.le_of_ble_eq_true rfl)⟩ (Nat.le_of_ble_eq_true rfl) ⟨rfl, rfl⟩ (ms_isThing l G x am _ _ (by exact hT) hT2) hM hF (fun h hM hF => ?_)
    refine wp_ifB_eq (pc := 13) (tgt := 24) dX12_write_13 (by decide) (fun c13 => ?_) (fun c13 => ?_)
    · skip
      refine wp_bipush (pc := 24) (v := (-2)) dX12_write_24 (by decide) ?_
      exact wp_iret (pc := 26) dX12_write_26 rfl ⟨by first | (simp only [f_write, hWx, hTx, hSx, e1, e2, e3, c5, c13, if_true, if_false, Bool.true_eq_false, Bool.false_eq_true, reduceIte, reduceCtorEq, Bool.not_true, Bool.not_false, true_and, and_true, and_false, false_and, or_true, true_or, or_false, false_or, not_true_eq_false, not_false_eq_true]; done) | (simp only [f_write, hWx, hTx, hSx, e1, e2, c5, c13, if_true, if_false, Bool.true_eq_false, Bool.false_eq_true, reduceIte, reduceCtorEq, Bool.not_true, Bool.not_false, true_and, and_true, and_false, false_and, or_true, true_or, or_false, false_or, not_true_eq_false, not_false_eq_true]; done) | (simp only [f_write, hWx, hTx, hSx, e1, c5, c13, if_true, if_false, Bool.true_eq_false, Bool.false_eq_true, reduceIte, reduceCtorEq, Bool.not_true, Bool.not_false, true_and, and_true, and_false, false_and, or_true, true_or, or_false, false_or, not_true_eq_false, not_false_eq_true]; done) | (simp only [f_write, hWx, hTx, hSx, c5, c13, if_true, if_false, Bool.true_eq_false, Bool.false_eq_true, reduceIte, reduceCtorEq, Bool.not_true, Bool.not_false, true_and, and_true, and_false, false_and, or_true, true_or, or_false, false_or, not_true_eq_false, not_false_eq_true]; done) | (simp only [f_write, hWx, hTx, hSx, e1, e2, e3, c5, c13, if_true, if_false, Bool.true_eq_false, Bool.false_eq_true, reduceIte, reduceCtorEq, Bool.not_true, Bool.not_false, true_and, and_true, and_false, false_and, or_true, true_or, or_false, false_or, not_true_eq_false, not_false_eq_true] <;> rfl) | (simp only [f_write, hWx, hTx, hSx, e1, e2, c5, c13, if_true, if_false, Bool.true_eq_false, Bool.false_eq_true, reduceIte, reduceCtorEq, Bool.not_true, Bool.not_false, true_and, and_true, and_false, false_and, or_true, true_or, or_false, false_or, not_true_eq_false, not_false_eq_true] <;> rfl) | (simp only [f_write, hWx, hTx, hSx, e1, c5, c13, if_true, if_false, Bool.true_eq_false, Bool.false_eq_true, reduceIte, reduceCtorEq, Bool.not_true, Bool.not_false, true_and, and_true, and_false, false_and, or_true, true_or, or_false, false_or, not_true_eq_false, not_false_eq_true] <;> rfl) | (simp only [f_write, hWx, hTx, hSx, c5, c13, if_true, if_false, Bool.true_eq_false, Bool.false_eq_true, reduceIte, reduceCtorEq, Bool.not_true, Bool.not_false, true_and, and_true, and_false, false_and, or_true, true_or, or_false, false_or, not_true_eq_false, not_false_eq_true] <;> rfl), by first | (simp only [f_write, hWx, hTx, hSx, e1, e2, e3, c5, c13, if_true, if_false, Bool.true_eq_false, Bool.false_eq_true, reduceIte, reduceCtorEq, Bool.not_true, Bool.not_false, true_and, and_true, and_false, false_and, or_true, true_or, or_false, false_or, not_true_eq_false, not_false_eq_true] <;> exact hM) | (simp only [f_write, hWx, hTx, hSx, e1, e2, c5, c13, if_true, if_false, Bool.true_eq_false, Bool.false_eq_true, reduceIte, reduceCtorEq, Bool.not_true, Bool.not_false, true_and, and_true, and_false, false_and, or_true, true_or, or_false, false_or, not_true_eq_false, not_false_eq_true] <;> exact hM) | (simp only [f_write, hWx, hTx, hSx, e1, c5, c13, if_true, if_false, Bool.true_eq_false, Bool.false_eq_true, reduceIte, reduceCtorEq, Bool.not_true, Bool.not_false, true_and, and_true, and_false, false_and, or_true, true_or, or_false, false_or, not_true_eq_false, not_false_eq_true] <;> exact hM) | (simp only [f_write, hWx, hTx, hSx, c5, c13, if_true, if_false, Bool.true_eq_false, Bool.false_eq_true, reduceIte, reduceCtorEq, Bool.not_true, Bool.not_false, true_and, and_true, and_false, false_and, or_true, true_or, or_false, false_or, not_true_eq_false, not_false_eq_true] <;> exact hM), hF⟩
    · obtain ⟨b, hb, rfl⟩ := isIx_t c13 (by omega)
      have e2 : nx (nI b) = b := nx_nI (by omega)
      refine wp_aload_n (pc := 16) dX12_write_16 rfl rfl ?_
      refine wp_iload_n (pc := 17) dX12_write_17 rfl rfl ?_
      refine mp_call (pc := 18) [_] dX12_write_18 rfl cv_X12_309_13 rfl ⟨(Nat.le_of_ble_eq_true rfl), (Nat.le_of_ble_eq_true rfl)⟩ (Nat.le_of_ble_eq_true rfl) ⟨rfl, rfl⟩ (ms_isStore l G x am _ _ (by exact hS) hS6) hM hF (fun h hM hF => ?_)
      refine wp_ifB_ne (pc := 21) (tgt := 27) dX12_write_21 (by decide) (fun c21 => ?_) (fun c21 => ?_)
      · obtain ⟨s, hs, rfl⟩ := isIx_t c21 (by omega)
        have e3 : nx (nI s) = s := nx_nI (by omega)
        refine wp_bipush (pc := 27) (v := 20) dX12_write_27 (by decide) ?_
        refine wp_iload_n (pc := 29) dX12_write_29 rfl rfl ?_
        refine wp_imul (pc := 30) dX12_write_30 ?_
        refine wp_iload_n (pc := 31) dX12_write_31 rfl rfl ?_
        refine wp_iadd (pc := 32) dX12_write_32 ?_
        refine wp_istore (pc := 33) (lv' := [_, _, _, _, _, _, _, _]) dX12_write_33 (Nat.le_of_ble_eq_true rfl) rfl rfl ?_
        refine wp_aload_n (pc := 35) dX12_write_35 rfl rfl ?_
        refine wp_get (pc := 36) dX12_write_36 fl_X12_29_13 hM.1 rfl ?_
        refine wp_iload_n (pc := 39) dX12_write_39 rfl rfl ?_
        refine wp_zald (pc := 40) (i := a) dX12_write_40 (hM.z 10 rfl) ⟨rfl, by omega, by decide⟩ ?_
        refine wp_if_eq (pc := 41) (tgt := 65) dX12_write_41 (by decide) (fun c41 => ?_) (fun c41 => ?_)
        · skip
          refine wp_bipush (pc := 65) (v := (-3)) dX12_write_65 (by decide) ?_
          exact wp_iret (pc := 67) dX12_write_67 rfl ⟨by first | (simp only [f_write, hWx, hTx, hSx, e1, e2, e3, c5, c13, c21, eq_true c41, if_true, if_false, Bool.true_eq_false, Bool.false_eq_true, reduceIte, reduceCtorEq, Bool.not_true, Bool.not_false, true_and, and_true, and_false, false_and, or_true, true_or, or_false, false_or, not_true_eq_false, not_false_eq_true]; done) | (simp only [f_write, hWx, hTx, hSx, e1, e2, c5, c13, c21, eq_true c41, if_true, if_false, Bool.true_eq_false, Bool.false_eq_true, reduceIte, reduceCtorEq, Bool.not_true, Bool.not_false, true_and, and_true, and_false, false_and, or_true, true_or, or_false, false_or, not_true_eq_false, not_false_eq_true]; done) | (simp only [f_write, hWx, hTx, hSx, e1, c5, c13, c21, eq_true c41, if_true, if_false, Bool.true_eq_false, Bool.false_eq_true, reduceIte, reduceCtorEq, Bool.not_true, Bool.not_false, true_and, and_true, and_false, false_and, or_true, true_or, or_false, false_or, not_true_eq_false, not_false_eq_true]; done) | (simp only [f_write, hWx, hTx, hSx, c5, c13, c21, eq_true c41, if_true, if_false, Bool.true_eq_false, Bool.false_eq_true, reduceIte, reduceCtorEq, Bool.not_true, Bool.not_false, true_and, and_true, and_false, false_and, or_true, true_or, or_false, false_or, not_true_eq_false, not_false_eq_true]; done) | (simp only [f_write, hWx, hTx, hSx, e1, e2, e3, c5, c13, c21, eq_true c41, if_true, if_false, Bool.true_eq_false, Bool.false_eq_true, reduceIte, reduceCtorEq, Bool.not_true, Bool.not_false, true_and, and_true, and_false, false_and, or_true, true_or, or_false, false_or, not_true_eq_false, not_false_eq_true] <;> rfl) | (simp only [f_write, hWx, hTx, hSx, e1, e2, c5, c13, c21, eq_true c41, if_true, if_false, Bool.true_eq_false, Bool.false_eq_true, reduceIte, reduceCtorEq, Bool.not_true, Bool.not_false, true_and, and_true, and_false, false_and, or_true, true_or, or_false, false_or, not_true_eq_false, not_false_eq_true] <;> rfl) | (simp only [f_write, hWx, hTx, hSx, e1, c5, c13, c21, eq_true c41, if_true, if_false, Bool.true_eq_false, Bool.false_eq_true, reduceIte, reduceCtorEq, Bool.not_true, Bool.not_false, true_and, and_true, and_false, false_and, or_true, true_or, or_false, false_or, not_true_eq_false, not_false_eq_true] <;> rfl) | (simp only [f_write, hWx, hTx, hSx, c5, c13, c21, eq_true c41, if_true, if_false, Bool.true_eq_false, Bool.false_eq_true, reduceIte, reduceCtorEq, Bool.not_true, Bool.not_false, true_and, and_true, and_false, false_and, or_true, true_or, or_false, false_or, not_true_eq_false, not_false_eq_true] <;> rfl), by first | (simp only [f_write, hWx, hTx, hSx, e1, e2, e3, c5, c13, c21, eq_true c41, if_true, if_false, Bool.true_eq_false, Bool.false_eq_true, reduceIte, reduceCtorEq, Bool.not_true, Bool.not_false, true_and, and_true, and_false, false_and, or_true, true_or, or_false, false_or, not_true_eq_false, not_false_eq_true] <;> exact hM) | (simp only [f_write, hWx, hTx, hSx, e1, e2, c5, c13, c21, eq_true c41, if_true, if_false, Bool.true_eq_false, Bool.false_eq_true, reduceIte, reduceCtorEq, Bool.not_true, Bool.not_false, true_and, and_true, and_false, false_and, or_true, true_or, or_false, false_or, not_true_eq_false, not_false_eq_true] <;> exact hM) | (simp only [f_write, hWx, hTx, hSx, e1, c5, c13, c21, eq_true c41, if_true, if_false, Bool.true_eq_false, Bool.false_eq_true, reduceIte, reduceCtorEq, Bool.not_true, Bool.not_false, true_and, and_true, and_false, false_and, or_true, true_or, or_false, false_or, not_true_eq_false, not_false_eq_true] <;> exact hM) | (simp only [f_write, hWx, hTx, hSx, c5, c13, c21, eq_true c41, if_true, if_false, Bool.true_eq_false, Bool.false_eq_true, reduceIte, reduceCtorEq, Bool.not_true, Bool.not_false, true_and, and_true, and_false, false_and, or_true, true_or, or_false, false_or, not_true_eq_false, not_false_eq_true] <;> exact hM), hF⟩
        · skip
          refine wp_aload_n (pc := 44) dX12_write_44 rfl rfl ?_
          refine wp_get (pc := 45) dX12_write_45 fl_X12_82_13 hM.1 rfl ?_
          refine wp_iload (pc := 48) dX12_write_48 rfl ?_
          refine wp_zald (pc := 50) (i := ((20 * a) + b)) dX12_write_50 (hM.z 29 rfl) ⟨by simp only [nl1, nl5, nl8, nl20, pk_mul, nI_add], by omega, by decide⟩ ?_
          refine wp_if_eq (pc := 51) (tgt := 65) dX12_write_51 (by decide) (fun c51 => ?_) (fun c51 => ?_)
          · skip
            refine wp_bipush (pc := 65) (v := (-3)) dX12_write_65 (by decide) ?_
            exact wp_iret (pc := 67) dX12_write_67 rfl ⟨by first | (simp only [f_write, hWx, hTx, hSx, e1, e2, e3, c5, c13, c21, eq_false c41, eq_true c51, if_true, if_false, Bool.true_eq_false, Bool.false_eq_true, reduceIte, reduceCtorEq, Bool.not_true, Bool.not_false, true_and, and_true, and_false, false_and, or_true, true_or, or_false, false_or, not_true_eq_false, not_false_eq_true]; done) | (simp only [f_write, hWx, hTx, hSx, e1, e2, c5, c13, c21, eq_false c41, eq_true c51, if_true, if_false, Bool.true_eq_false, Bool.false_eq_true, reduceIte, reduceCtorEq, Bool.not_true, Bool.not_false, true_and, and_true, and_false, false_and, or_true, true_or, or_false, false_or, not_true_eq_false, not_false_eq_true]; done) | (simp only [f_write, hWx, hTx, hSx, e1, c5, c13, c21, eq_false c41, eq_true c51, if_true, if_false, Bool.true_eq_false, Bool.false_eq_true, reduceIte, reduceCtorEq, Bool.not_true, Bool.not_false, true_and, and_true, and_false, false_and, or_true, true_or, or_false, false_or, not_true_eq_false, not_false_eq_true]; done) | (simp only [f_write, hWx, hTx, hSx, c5, c13, c21, eq_false c41, eq_true c51, if_true, if_false, Bool.true_eq_false, Bool.false_eq_true, reduceIte, reduceCtorEq, Bool.not_true, Bool.not_false, true_and, and_true, and_false, false_and, or_true, true_or, or_false, false_or, not_true_eq_false, not_false_eq_true]; done) | (simp only [f_write, hWx, hTx, hSx, e1, e2, e3, c5, c13, c21, eq_false c41, eq_true c51, if_true, if_false, Bool.true_eq_false, Bool.false_eq_true, reduceIte, reduceCtorEq, Bool.not_true, Bool.not_false, true_and, and_true, and_false, false_and, or_true, true_or, or_false, false_or, not_true_eq_false, not_false_eq_true] <;> rfl) | (simp only [f_write, hWx, hTx, hSx, e1, e2, c5, c13, c21, eq_false c41, eq_true c51, if_true, if_false, Bool.true_eq_false, Bool.false_eq_true, reduceIte, reduceCtorEq, Bool.not_true, Bool.not_false, true_and, and_true, and_false, false_and, or_true, true_or, or_false, false_or, not_true_eq_false, not_false_eq_true] <;> rfl) | (simp only [f_write, hWx, hTx, hSx, e1, c5, c13, c21, eq_false c41, eq_true c51, if_true, if_false, Bool.true_eq_false, Bool.false_eq_true, reduceIte, reduceCtorEq, Bool.not_true, Bool.not_false, true_and, and_true, and_false, false_and, or_true, true_or, or_false, false_or, not_true_eq_false, not_false_eq_true] <;> rfl) | (simp only [f_write, hWx, hTx, hSx, c5, c13, c21, eq_false c41, eq_true c51, if_true, if_false, Bool.true_eq_false, Bool.false_eq_true, reduceIte, reduceCtorEq, Bool.not_true, Bool.not_false, true_and, and_true, and_false, false_and, or_true, true_or, or_false, false_or, not_true_eq_false, not_false_eq_true] <;> rfl), by first | (simp only [f_write, hWx, hTx, hSx, e1, e2, e3, c5, c13, c21, eq_false c41, eq_true c51, if_true, if_false, Bool.true_eq_false, Bool.false_eq_true, reduceIte, reduceCtorEq, Bool.not_true, Bool.not_false, true_and, and_true, and_false, false_and, or_true, true_or, or_false, false_or, not_true_eq_false, not_false_eq_true] <;> exact hM) | (simp only [f_write, hWx, hTx, hSx, e1, e2, c5, c13, c21, eq_false c41, eq_true c51, if_true, if_false, Bool.true_eq_false, Bool.false_eq_true, reduceIte, reduceCtorEq, Bool.not_true, Bool.not_false, true_and, and_true, and_false, false_and, or_true, true_or, or_false, false_or, not_true_eq_false, not_false_eq_true] <;> exact hM) | (simp only [f_write, hWx, hTx, hSx, e1, c5, c13, c21, eq_false c41, eq_true c51, if_true, if_false, Bool.true_eq_false, Bool.false_eq_true, reduceIte, reduceCtorEq, Bool.not_true, Bool.not_false, true_and, and_true, and_false, false_and, or_true, true_or, or_false, false_or, not_true_eq_false, not_false_eq_true] <;> exact hM) | (simp only [f_write, hWx, hTx, hSx, c5, c13, c21, eq_false c41, eq_true c51, if_true, if_false, Bool.true_eq_false, Bool.false_eq_true, reduceIte, reduceCtorEq, Bool.not_true, Bool.not_false, true_and, and_true, and_false, false_and, or_true, true_or, or_false, false_or, not_true_eq_false, not_false_eq_true] <;> exact hM), hF⟩
          · skip
            refine wp_aload_n (pc := 54) dX12_write_54 rfl rfl ?_
            refine wp_get (pc := 55) dX12_write_55 fl_X12_85_13 hM.1 rfl ?_
            refine wp_iload (pc := 58) dX12_write_58 rfl ?_
            refine wp_iald (pc := 60) (i := ((20 * a) + b)) dX12_write_60 (hM.i 30 rfl) ⟨by simp only [nl1, nl5, nl8, nl20, pk_mul, nI_add], by omega, by decide⟩ ?_
            refine wp_iconst (pc := 61) (v := 1) dX12_write_61 (by decide) ?_
            refine wp_icmp_ne (pc := 62) (tgt := 68) dX12_write_62 (by decide) (fun c62 => ?_) (fun c62 => ?_)
            · skip
              refine wp_bipush (pc := 68) (v := 20) dX12_write_68 (by decide) ?_
              refine wp_iload_n (pc := 70) dX12_write_70 rfl rfl ?_
              refine wp_imul (pc := 71) dX12_write_71 ?_
              refine wp_iload_n (pc := 72) dX12_write_72 rfl rfl ?_
              refine wp_iadd (pc := 73) dX12_write_73 ?_
              refine wp_istore (pc := 74) (lv' := [_, _, _, _, _, _, _, _]) dX12_write_74 (Nat.le_of_ble_eq_true rfl) rfl rfl ?_
              refine wp_aload_n (pc := 76) dX12_write_76 rfl rfl ?_
              refine wp_get (pc := 77) dX12_write_77 fl_X12_94_13 hM.1 rfl ?_
              refine wp_iload (pc := 80) dX12_write_80 rfl ?_
              refine wp_lald (pc := 82) (i := ((20 * a) + b)) dX12_write_82 (hM.j 33 rfl) ⟨by simp only [nl1, nl5, nl8, nl20, pk_mul, nI_add], by omega, by decide⟩ ?_
              refine wp_aload_n (pc := 83) dX12_write_83 rfl rfl ?_
              refine wp_get (pc := 84) dX12_write_84 fl_X12_130_13 hM.1 rfl ?_
              refine wp_iload (pc := 87) dX12_write_87 rfl ?_
              refine wp_lald (pc := 89) (i := ((20 * s) + b)) dX12_write_89 (hM.j 47 rfl) ⟨by simp only [nl1, nl5, nl8, nl20, pk_mul, nI_add], by omega, by decide⟩ ?_
              refine wp_lcmp_ge (pc := 90) (tgt := 106) dX12_write_90 dX12_write_91 (by decide) (fun c90 => ?_) (fun c90 => ?_)
              · skip
                refine wp_aload_n (pc := 106) dX12_write_106 rfl rfl ?_
                refine wp_get (pc := 107) dX12_write_107 fl_X12_130_13 hM.1 rfl ?_
                refine wp_iload (pc := 110) dX12_write_110 rfl ?_
                refine wp_aload_n (pc := 112) dX12_write_112 rfl rfl ?_
                refine wp_get (pc := 113) dX12_write_113 fl_X12_94_13 hM.1 rfl ?_
                refine wp_iload (pc := 116) dX12_write_116 rfl ?_
                refine wp_lald (pc := 118) (i := ((20 * a) + b)) dX12_write_118 (hM.j 33 rfl) ⟨by simp only [nl1, nl5, nl8, nl20, pk_mul, nI_add], by omega, by decide⟩ ?_
                refine mp_last (pc := 119) (k := 47) (i := ((20 * s) + b)) dX12_write_119 hM hF rfl ⟨by simp only [nl1, nl5, nl8, nl20, pk_mul, nI_add], by omega, by decide⟩ (fun h hM hF => ?_)
                refine wp_aload_n (pc := 120) dX12_write_120 rfl rfl ?_
                refine wp_get (pc := 121) dX12_write_121 fl_X12_133_13 hM.1 rfl ?_
                refine wp_iload (pc := 124) dX12_write_124 rfl ?_
                refine wp_lload (pc := 126) dX12_write_126 rfl ?_
                refine mp_last (pc := 128) (k := 48) (i := ((20 * s) + b)) dX12_write_128 hM hF rfl ⟨by simp only [nl1, nl5, nl8, nl20, pk_mul, nI_add], by omega, by decide⟩ (fun h hM hF => ?_)
                refine wp_iconst (pc := 129) (v := 1) dX12_write_129 (by decide) ?_
                exact wp_iret (pc := 130) dX12_write_130 rfl ⟨by first | (simp only [f_write, hWx, hTx, hSx, e1, e2, e3, c5, c13, c21, eq_false c41, eq_false c51, eq_false c62, eq_true c90, if_true, if_false, Bool.true_eq_false, Bool.false_eq_true, reduceIte, reduceCtorEq, Bool.not_true, Bool.not_false, true_and, and_true, and_false, false_and, or_true, true_or, or_false, false_or, not_true_eq_false, not_false_eq_true]; done) | (simp only [f_write, hWx, hTx, hSx, e1, e2, c5, c13, c21, eq_false c41, eq_false c51, eq_false c62, eq_true c90, if_true, if_false, Bool.true_eq_false, Bool.false_eq_true, reduceIte, reduceCtorEq, Bool.not_true, Bool.not_false, true_and, and_true, and_false, false_and, or_true, true_or, or_false, false_or, not_true_eq_false, not_false_eq_true]; done) | (simp only [f_write, hWx, hTx, hSx, e1, c5, c13, c21, eq_false c41, eq_false c51, eq_false c62, eq_true c90, if_true, if_false, Bool.true_eq_false, Bool.false_eq_true, reduceIte, reduceCtorEq, Bool.not_true, Bool.not_false, true_and, and_true, and_false, false_and, or_true, true_or, or_false, false_or, not_true_eq_false, not_false_eq_true]; done) | (simp only [f_write, hWx, hTx, hSx, c5, c13, c21, eq_false c41, eq_false c51, eq_false c62, eq_true c90, if_true, if_false, Bool.true_eq_false, Bool.false_eq_true, reduceIte, reduceCtorEq, Bool.not_true, Bool.not_false, true_and, and_true, and_false, false_and, or_true, true_or, or_false, false_or, not_true_eq_false, not_false_eq_true]; done) | (simp only [f_write, hWx, hTx, hSx, e1, e2, e3, c5, c13, c21, eq_false c41, eq_false c51, eq_false c62, eq_true c90, if_true, if_false, Bool.true_eq_false, Bool.false_eq_true, reduceIte, reduceCtorEq, Bool.not_true, Bool.not_false, true_and, and_true, and_false, false_and, or_true, true_or, or_false, false_or, not_true_eq_false, not_false_eq_true] <;> rfl) | (simp only [f_write, hWx, hTx, hSx, e1, e2, c5, c13, c21, eq_false c41, eq_false c51, eq_false c62, eq_true c90, if_true, if_false, Bool.true_eq_false, Bool.false_eq_true, reduceIte, reduceCtorEq, Bool.not_true, Bool.not_false, true_and, and_true, and_false, false_and, or_true, true_or, or_false, false_or, not_true_eq_false, not_false_eq_true] <;> rfl) | (simp only [f_write, hWx, hTx, hSx, e1, c5, c13, c21, eq_false c41, eq_false c51, eq_false c62, eq_true c90, if_true, if_false, Bool.true_eq_false, Bool.false_eq_true, reduceIte, reduceCtorEq, Bool.not_true, Bool.not_false, true_and, and_true, and_false, false_and, or_true, true_or, or_false, false_or, not_true_eq_false, not_false_eq_true] <;> rfl) | (simp only [f_write, hWx, hTx, hSx, c5, c13, c21, eq_false c41, eq_false c51, eq_false c62, eq_true c90, if_true, if_false, Bool.true_eq_false, Bool.false_eq_true, reduceIte, reduceCtorEq, Bool.not_true, Bool.not_false, true_and, and_true, and_false, false_and, or_true, true_or, or_false, false_or, not_true_eq_false, not_false_eq_true] <;> rfl), by first | (simp only [f_write, hWx, hTx, hSx, e1, e2, e3, c5, c13, c21, eq_false c41, eq_false c51, eq_false c62, eq_true c90, if_true, if_false, Bool.true_eq_false, Bool.false_eq_true, reduceIte, reduceCtorEq, Bool.not_true, Bool.not_false, true_and, and_true, and_false, false_and, or_true, true_or, or_false, false_or, not_true_eq_false, not_false_eq_true] <;> exact hM) | (simp only [f_write, hWx, hTx, hSx, e1, e2, c5, c13, c21, eq_false c41, eq_false c51, eq_false c62, eq_true c90, if_true, if_false, Bool.true_eq_false, Bool.false_eq_true, reduceIte, reduceCtorEq, Bool.not_true, Bool.not_false, true_and, and_true, and_false, false_and, or_true, true_or, or_false, false_or, not_true_eq_false, not_false_eq_true] <;> exact hM) | (simp only [f_write, hWx, hTx, hSx, e1, c5, c13, c21, eq_false c41, eq_false c51, eq_false c62, eq_true c90, if_true, if_false, Bool.true_eq_false, Bool.false_eq_true, reduceIte, reduceCtorEq, Bool.not_true, Bool.not_false, true_and, and_true, and_false, false_and, or_true, true_or, or_false, false_or, not_true_eq_false, not_false_eq_true] <;> exact hM) | (simp only [f_write, hWx, hTx, hSx, c5, c13, c21, eq_false c41, eq_false c51, eq_false c62, eq_true c90, if_true, if_false, Bool.true_eq_false, Bool.false_eq_true, reduceIte, reduceCtorEq, Bool.not_true, Bool.not_false, true_and, and_true, and_false, false_and, or_true, true_or, or_false, false_or, not_true_eq_false, not_false_eq_true] <;> exact hM), hF⟩
              · skip
                refine wp_aload_n (pc := 94) dX12_write_94 rfl rfl ?_
                refine wp_dup (pc := 95) dX12_write_95 rfl ?_
                refine wp_get (pc := 96) dX12_write_96 fl_X12_312_13 hM.1 rfl ?_
                refine wp_iconst (pc := 99) (v := 1) dX12_write_99 (by decide) ?_
                refine wp_iadd (pc := 100) dX12_write_100 ?_
                refine mp_putS (pc := 101) dX12_write_101 fl_X12_312_13 hM hF rfl rfl (by decide) rfl (fun h hM hF => ?_)
                refine wp_iconst (pc := 104) (v := 0) dX12_write_104 (by decide) ?_
                exact wp_iret (pc := 105) dX12_write_105 rfl ⟨by first | (simp only [f_write, hWx, hTx, hSx, e1, e2, e3, c5, c13, c21, eq_false c41, eq_false c51, eq_false c62, eq_false c90, if_true, if_false, Bool.true_eq_false, Bool.false_eq_true, reduceIte, reduceCtorEq, Bool.not_true, Bool.not_false, true_and, and_true, and_false, false_and, or_true, true_or, or_false, false_or, not_true_eq_false, not_false_eq_true]; done) | (simp only [f_write, hWx, hTx, hSx, e1, e2, c5, c13, c21, eq_false c41, eq_false c51, eq_false c62, eq_false c90, if_true, if_false, Bool.true_eq_false, Bool.false_eq_true, reduceIte, reduceCtorEq, Bool.not_true, Bool.not_false, true_and, and_true, and_false, false_and, or_true, true_or, or_false, false_or, not_true_eq_false, not_false_eq_true]; done) | (simp only [f_write, hWx, hTx, hSx, e1, c5, c13, c21, eq_false c41, eq_false c51, eq_false c62, eq_false c90, if_true, if_false, Bool.true_eq_false, Bool.false_eq_true, reduceIte, reduceCtorEq, Bool.not_true, Bool.not_false, true_and, and_true, and_false, false_and, or_true, true_or, or_false, false_or, not_true_eq_false, not_false_eq_true]; done) | (simp only [f_write, hWx, hTx, hSx, c5, c13, c21, eq_false c41, eq_false c51, eq_false c62, eq_false c90, if_true, if_false, Bool.true_eq_false, Bool.false_eq_true, reduceIte, reduceCtorEq, Bool.not_true, Bool.not_false, true_and, and_true, and_false, false_and, or_true, true_or, or_false, false_or, not_true_eq_false, not_false_eq_true]; done) | (simp only [f_write, hWx, hTx, hSx, e1, e2, e3, c5, c13, c21, eq_false c41, eq_false c51, eq_false c62, eq_false c90, if_true, if_false, Bool.true_eq_false, Bool.false_eq_true, reduceIte, reduceCtorEq, Bool.not_true, Bool.not_false, true_and, and_true, and_false, false_and, or_true, true_or, or_false, false_or, not_true_eq_false, not_false_eq_true] <;> rfl) | (simp only [f_write, hWx, hTx, hSx, e1, e2, c5, c13, c21, eq_false c41, eq_false c51, eq_false c62, eq_false c90, if_true, if_false, Bool.true_eq_false, Bool.false_eq_true, reduceIte, reduceCtorEq, Bool.not_true, Bool.not_false, true_and, and_true, and_false, false_and, or_true, true_or, or_false, false_or, not_true_eq_false, not_false_eq_true] <;> rfl) | (simp only [f_write, hWx, hTx, hSx, e1, c5, c13, c21, eq_false c41, eq_false c51, eq_false c62, eq_false c90, if_true, if_false, Bool.true_eq_false, Bool.false_eq_true, reduceIte, reduceCtorEq, Bool.not_true, Bool.not_false, true_and, and_true, and_false, false_and, or_true, true_or, or_false, false_or, not_true_eq_false, not_false_eq_true] <;> rfl) | (simp only [f_write, hWx, hTx, hSx, c5, c13, c21, eq_false c41, eq_false c51, eq_false c62, eq_false c90, if_true, if_false, Bool.true_eq_false, Bool.false_eq_true, reduceIte, reduceCtorEq, Bool.not_true, Bool.not_false, true_and, and_true, and_false, false_and, or_true, true_or, or_false, false_or, not_true_eq_false, not_false_eq_true] <;> rfl), by first | (simp only [f_write, hWx, hTx, hSx, e1, e2, e3, c5, c13, c21, eq_false c41, eq_false c51, eq_false c62, eq_false c90, if_true, if_false, Bool.true_eq_false, Bool.false_eq_true, reduceIte, reduceCtorEq, Bool.not_true, Bool.not_false, true_and, and_true, and_false, false_and, or_true, true_or, or_false, false_or, not_true_eq_false, not_false_eq_true] <;> exact hM) | (simp only [f_write, hWx, hTx, hSx, e1, e2, c5, c13, c21, eq_false c41, eq_false c51, eq_false c62, eq_false c90, if_true, if_false, Bool.true_eq_false, Bool.false_eq_true, reduceIte, reduceCtorEq, Bool.not_true, Bool.not_false, true_and, and_true, and_false, false_and, or_true, true_or, or_false, false_or, not_true_eq_false, not_false_eq_true] <;> exact hM) | (simp only [f_write, hWx, hTx, hSx, e1, c5, c13, c21, eq_false c41, eq_false c51, eq_false c62, eq_false c90, if_true, if_false, Bool.true_eq_false, Bool.false_eq_true, reduceIte, reduceCtorEq, Bool.not_true, Bool.not_false, true_and, and_true, and_false, false_and, or_true, true_or, or_false, false_or, not_true_eq_false, not_false_eq_true] <;> exact hM) | (simp only [f_write, hWx, hTx, hSx, c5, c13, c21, eq_false c41, eq_false c51, eq_false c62, eq_false c90, if_true, if_false, Bool.true_eq_false, Bool.false_eq_true, reduceIte, reduceCtorEq, Bool.not_true, Bool.not_false, true_and, and_true, and_false, false_and, or_true, true_or, or_false, false_or, not_true_eq_false, not_false_eq_true] <;> exact hM), hF⟩
            · skip
              refine wp_bipush (pc := 65) (v := (-3)) dX12_write_65 (by decide) ?_
              exact wp_iret (pc := 67) dX12_write_67 rfl ⟨by first | (simp only [f_write, hWx, hTx, hSx, e1, e2, e3, c5, c13, c21, eq_false c41, eq_false c51, eq_true c62, if_true, if_false, Bool.true_eq_false, Bool.false_eq_true, reduceIte, reduceCtorEq, Bool.not_true, Bool.not_false, true_and, and_true, and_false, false_and, or_true, true_or, or_false, false_or, not_true_eq_false, not_false_eq_true]; done) | (simp only [f_write, hWx, hTx, hSx, e1, e2, c5, c13, c21, eq_false c41, eq_false c51, eq_true c62, if_true, if_false, Bool.true_eq_false, Bool.false_eq_true, reduceIte, reduceCtorEq, Bool.not_true, Bool.not_false, true_and, and_true, and_false, false_and, or_true, true_or, or_false, false_or, not_true_eq_false, not_false_eq_true]; done) | (simp only [f_write, hWx, hTx, hSx, e1, c5, c13, c21, eq_false c41, eq_false c51, eq_true c62, if_true, if_false, Bool.true_eq_false, Bool.false_eq_true, reduceIte, reduceCtorEq, Bool.not_true, Bool.not_false, true_and, and_true, and_false, false_and, or_true, true_or, or_false, false_or, not_true_eq_false, not_false_eq_true]; done) | (simp only [f_write, hWx, hTx, hSx, c5, c13, c21, eq_false c41, eq_false c51, eq_true c62, if_true, if_false, Bool.true_eq_false, Bool.false_eq_true, reduceIte, reduceCtorEq, Bool.not_true, Bool.not_false, true_and, and_true, and_false, false_and, or_true, true_or, or_false, false_or, not_true_eq_false, not_false_eq_true]; done) | (simp only [f_write, hWx, hTx, hSx, e1, e2, e3, c5, c13, c21, eq_false c41, eq_false c51, eq_true c62, if_true, if_false, Bool.true_eq_false, Bool.false_eq_true, reduceIte, reduceCtorEq, Bool.not_true, Bool.not_false, true_and, and_true, and_false, false_and, or_true, true_or, or_false, false_or, not_true_eq_false, not_false_eq_true] <;> rfl) | (simp only [f_write, hWx, hTx, hSx, e1, e2, c5, c13, c21, eq_false c41, eq_false c51, eq_true c62, if_true, if_false, Bool.true_eq_false, Bool.false_eq_true, reduceIte, reduceCtorEq, Bool.not_true, Bool.not_false, true_and, and_true, and_false, false_and, or_true, true_or, or_false, false_or, not_true_eq_false, not_false_eq_true] <;> rfl) | (simp only [f_write, hWx, hTx, hSx, e1, c5, c13, c21, eq_false c41, eq_false c51, eq_true c62, if_true, if_false, Bool.true_eq_false, Bool.false_eq_true, reduceIte, reduceCtorEq, Bool.not_true, Bool.not_false, true_and, and_true, and_false, false_and, or_true, true_or, or_false, false_or, not_true_eq_false, not_false_eq_true] <;> rfl) | (simp only [f_write, hWx, hTx, hSx, c5, c13, c21, eq_false c41, eq_false c51, eq_true c62, if_true, if_false, Bool.true_eq_false, Bool.false_eq_true, reduceIte, reduceCtorEq, Bool.not_true, Bool.not_false, true_and, and_true, and_false, false_and, or_true, true_or, or_false, false_or, not_true_eq_false, not_false_eq_true] <;> rfl), by first | (simp only [f_write, hWx, hTx, hSx, e1, e2, e3, c5, c13, c21, eq_false c41, eq_false c51, eq_true c62, if_true, if_false, Bool.true_eq_false, Bool.false_eq_true, reduceIte, reduceCtorEq, Bool.not_true, Bool.not_false, true_and, and_true, and_false, false_and, or_true, true_or, or_false, false_or, not_true_eq_false, not_false_eq_true] <;> exact hM) | (simp only [f_write, hWx, hTx, hSx, e1, e2, c5, c13, c21, eq_false c41, eq_false c51, eq_true c62, if_true, if_false, Bool.true_eq_false, Bool.false_eq_true, reduceIte, reduceCtorEq, Bool.not_true, Bool.not_false, true_and, and_true, and_false, false_and, or_true, true_or, or_false, false_or, not_true_eq_false, not_false_eq_true] <;> exact hM) | (simp only [f_write, hWx, hTx, hSx, e1, c5, c13, c21, eq_false c41, eq_false c51, eq_true c62, if_true, if_false, Bool.true_eq_false, Bool.false_eq_true, reduceIte, reduceCtorEq, Bool.not_true, Bool.not_false, true_and, and_true, and_false, false_and, or_true, true_or, or_false, false_or, not_true_eq_false, not_false_eq_true] <;> exact hM) | (simp only [f_write, hWx, hTx, hSx, c5, c13, c21, eq_false c41, eq_false c51, eq_true c62, if_true, if_false, Bool.true_eq_false, Bool.false_eq_true, reduceIte, reduceCtorEq, Bool.not_true, Bool.not_false, true_and, and_true, and_false, false_and, or_true, true_or, or_false, false_or, not_true_eq_false, not_false_eq_true] <;> exact hM), hF⟩
      · skip
        refine wp_bipush (pc := 24) (v := (-2)) dX12_write_24 (by decide) ?_
        exact wp_iret (pc := 26) dX12_write_26 rfl ⟨by first | (simp only [f_write, hWx, hTx, hSx, e1, e2, e3, c5, c13, c21, if_true, if_false, Bool.true_eq_false, Bool.false_eq_true, reduceIte, reduceCtorEq, Bool.not_true, Bool.not_false, true_and, and_true, and_false, false_and, or_true, true_or, or_false, false_or, not_true_eq_false, not_false_eq_true]; done) | (simp only [f_write, hWx, hTx, hSx, e1, e2, c5, c13, c21, if_true, if_false, Bool.true_eq_false, Bool.false_eq_true, reduceIte, reduceCtorEq, Bool.not_true, Bool.not_false, true_and, and_true, and_false, false_and, or_true, true_or, or_false, false_or, not_true_eq_false, not_false_eq_true]; done) | (simp only [f_write, hWx, hTx, hSx, e1, c5, c13, c21, if_true, if_false, Bool.true_eq_false, Bool.false_eq_true, reduceIte, reduceCtorEq, Bool.not_true, Bool.not_false, true_and, and_true, and_false, false_and, or_true, true_or, or_false, false_or, not_true_eq_false, not_false_eq_true]; done) | (simp only [f_write, hWx, hTx, hSx, c5, c13, c21, if_true, if_false, Bool.true_eq_false, Bool.false_eq_true, reduceIte, reduceCtorEq, Bool.not_true, Bool.not_false, true_and, and_true, and_false, false_and, or_true, true_or, or_false, false_or, not_true_eq_false, not_false_eq_true]; done) | (simp only [f_write, hWx, hTx, hSx, e1, e2, e3, c5, c13, c21, if_true, if_false, Bool.true_eq_false, Bool.false_eq_true, reduceIte, reduceCtorEq, Bool.not_true, Bool.not_false, true_and, and_true, and_false, false_and, or_true, true_or, or_false, false_or, not_true_eq_false, not_false_eq_true] <;> rfl) | (simp only [f_write, hWx, hTx, hSx, e1, e2, c5, c13, c21, if_true, if_false, Bool.true_eq_false, Bool.false_eq_true, reduceIte, reduceCtorEq, Bool.not_true, Bool.not_false, true_and, and_true, and_false, false_and, or_true, true_or, or_false, false_or, not_true_eq_false, not_false_eq_true] <;> rfl) | (simp only [f_write, hWx, hTx, hSx, e1, c5, c13, c21, if_true, if_false, Bool.true_eq_false, Bool.false_eq_true, reduceIte, reduceCtorEq, Bool.not_true, Bool.not_false, true_and, and_true, and_false, false_and, or_true, true_or, or_false, false_or, not_true_eq_false, not_false_eq_true] <;> rfl) | (simp only [f_write, hWx, hTx, hSx, c5, c13, c21, if_true, if_false, Bool.true_eq_false, Bool.false_eq_true, reduceIte, reduceCtorEq, Bool.not_true, Bool.not_false, true_and, and_true, and_false, false_and, or_true, true_or, or_false, false_or, not_true_eq_false, not_false_eq_true] <;> rfl), by first | (simp only [f_write, hWx, hTx, hSx, e1, e2, e3, c5, c13, c21, if_true, if_false, Bool.true_eq_false, Bool.false_eq_true, reduceIte, reduceCtorEq, Bool.not_true, Bool.not_false, true_and, and_true, and_false, false_and, or_true, true_or, or_false, false_or, not_true_eq_false, not_false_eq_true] <;> exact hM) | (simp only [f_write, hWx, hTx, hSx, e1, e2, c5, c13, c21, if_true, if_false, Bool.true_eq_false, Bool.false_eq_true, reduceIte, reduceCtorEq, Bool.not_true, Bool.not_false, true_and, and_true, and_false, false_and, or_true, true_or, or_false, false_or, not_true_eq_false, not_false_eq_true] <;> exact hM) | (simp only [f_write, hWx, hTx, hSx, e1, c5, c13, c21, if_true, if_false, Bool.true_eq_false, Bool.false_eq_true, reduceIte, reduceCtorEq, Bool.not_true, Bool.not_false, true_and, and_true, and_false, false_and, or_true, true_or, or_false, false_or, not_true_eq_false, not_false_eq_true] <;> exact hM) | (simp only [f_write, hWx, hTx, hSx, c5, c13, c21, if_true, if_false, Bool.true_eq_false, Bool.false_eq_true, reduceIte, reduceCtorEq, Bool.not_true, Bool.not_false, true_and, and_true, and_false, false_and, or_true, true_or, or_false, false_or, not_true_eq_false, not_false_eq_true] <;> exact hM), hF⟩
theorem ms_stored (s0 : Int32) (v : Int32) (what : Int32)  {N : Nat} (hT : M.1 11 = nI N) (hT2 : N ≤ 20) {S : Nat} (hS : M.1 46 = nI S) (hS6 : S ≤ 6) : MSp l G x am mX12_stored [.int s0, .int v, .int what] M (some (.long (f_stored M s0 v what))) M := by
  refine MSp.intro (lv := [_, _, _, _]) (by decide) rfl (Nat.le_of_ble_eq_true rfl) (fun h0 h hM hF => ?_)
  have hTx : nx (M.1 11) = N := by rw [hT]; exact nx_nI (by omega)
  have hSx : nx (M.1 46) = S := by rw [hS]; exact nx_nI (by omega)
  refine wp_aload_n (pc := 0) dX12_stored_0 rfl rfl ?_
  refine wp_iload_n (pc := 1) dX12_stored_1 rfl rfl ?_
  refine mp_call (pc := 2) [_] dX12_stored_2 rfl cv_X12_309_13 rfl ⟨(Nat.le_of_ble_eq_true rfl), (Nat.le_of_ble_eq_true rfl)⟩ (Nat.le_of_ble_eq_true rfl) ⟨rfl, rfl⟩ (ms_isStore l G x am _ _ (by exact hS) hS6) hM hF (fun h hM hF => ?_)
  refine wp_ifB_eq (pc := 5) (tgt := 25) dX12_stored_5 (by decide) (fun c5 => ?_) (fun c5 => ?_)
  · skip
    refine wp_ldc2_w (pc := 25) dX12_stored_25 w6_61 ?_
    exact wp_lret (pc := 28) dX12_stored_28 rfl ⟨by first | (simp only [f_stored, hSx, hTx, e3, e2, c5, if_true, if_false, Bool.true_eq_false, Bool.false_eq_true, reduceIte, reduceCtorEq, Bool.not_true, Bool.not_false, true_and, and_true, and_false, false_and, or_true, true_or, or_false, false_or, not_true_eq_false, not_false_eq_true]; done) | (simp only [f_stored, hSx, hTx, e3, c5, if_true, if_false, Bool.true_eq_false, Bool.false_eq_true, reduceIte, reduceCtorEq, Bool.not_true, Bool.not_false, true_and, and_true, and_false, false_and, or_true, true_or, or_false, false_or, not_true_eq_false, not_false_eq_true]; done) | (simp only [f_stored, hSx, hTx, c5, if_true, if_false, Bool.true_eq_false, Bool.false_eq_true, reduceIte, reduceCtorEq, Bool.not_true, Bool.not_false, true_and, and_true, and_false, false_and, or_true, true_or, or_false, false_or, not_true_eq_false, not_false_eq_true]; done) | (simp only [f_stored, hSx, hTx, e3, e2, c5, if_true, if_false, Bool.true_eq_false, Bool.false_eq_true, reduceIte, reduceCtorEq, Bool.not_true, Bool.not_false, true_and, and_true, and_false, false_and, or_true, true_or, or_false, false_or, not_true_eq_false, not_false_eq_true] <;> rfl) | (simp only [f_stored, hSx, hTx, e3, c5, if_true, if_false, Bool.true_eq_false, Bool.false_eq_true, reduceIte, reduceCtorEq, Bool.not_true, Bool.not_false, true_and, and_true, and_false, false_and, or_true, true_or, or_false, false_or, not_true_eq_false, not_false_eq_true] <;> rfl) | (simp only [f_stored, hSx, hTx, c5, if_true, if_false, Bool.true_eq_false, Bool.false_eq_true, reduceIte, reduceCtorEq, Bool.not_true, Bool.not_false, true_and, and_true, and_false, false_and, or_true, true_or, or_false, false_or, not_true_eq_false, not_false_eq_true] <;> rfl), hM, hF⟩
  · obtain ⟨s, hs, rfl⟩ := isIx_t c5 (by omega)
    have e3 : nx (nI s) = s := nx_nI (by omega)
    refine wp_aload_n (pc := 8) dX12_stored_8 rfl rfl ?_
    refine wp_iload_n (pc := 9) dX12_stored_9 rfl rfl ?_
    refine mp_call (pc := 10) [_] dX12_stored_10 rfl cv_X12_214_13 rfl ⟨(Nat.le_of_ble_eq_true rfl), (Nat.le_of_ble_eq_true rfl)⟩ (Nat.le_of_ble_eq_true rfl) ⟨rfl, rfl⟩ (ms_isThing l G x am _ _ (by exact hT) hT2) hM hF (fun h hM hF => ?_)
    refine wp_ifB_eq (pc := 13) (tgt := 25) dX12_stored_13 (by decide) (fun c13 => ?_) (fun c13 => ?_)
    · skip
      refine wp_ldc2_w (pc := 25) dX12_stored_25 w6_61 ?_
      exact wp_lret (pc := 28) dX12_stored_28 rfl ⟨by first | (simp only [f_stored, hSx, hTx, e3, e2, c5, c13, if_true, if_false, Bool.true_eq_false, Bool.false_eq_true, reduceIte, reduceCtorEq, Bool.not_true, Bool.not_false, true_and, and_true, and_false, false_and, or_true, true_or, or_false, false_or, not_true_eq_false, not_false_eq_true]; done) | (simp only [f_stored, hSx, hTx, e3, c5, c13, if_true, if_false, Bool.true_eq_false, Bool.false_eq_true, reduceIte, reduceCtorEq, Bool.not_true, Bool.not_false, true_and, and_true, and_false, false_and, or_true, true_or, or_false, false_or, not_true_eq_false, not_false_eq_true]; done) | (simp only [f_stored, hSx, hTx, c5, c13, if_true, if_false, Bool.true_eq_false, Bool.false_eq_true, reduceIte, reduceCtorEq, Bool.not_true, Bool.not_false, true_and, and_true, and_false, false_and, or_true, true_or, or_false, false_or, not_true_eq_false, not_false_eq_true]; done) | (simp only [f_stored, hSx, hTx, e3, e2, c5, c13, if_true, if_false, Bool.true_eq_false, Bool.false_eq_true, reduceIte, reduceCtorEq, Bool.not_true, Bool.not_false, true_and, and_true, and_false, false_and, or_true, true_or, or_false, false_or, not_true_eq_false, not_false_eq_true] <;> rfl) | (simp only [f_stored, hSx, hTx, e3, c5, c13, if_true, if_false, Bool.true_eq_false, Bool.false_eq_true, reduceIte, reduceCtorEq, Bool.not_true, Bool.not_false, true_and, and_true, and_false, false_and, or_true, true_or, or_false, false_or, not_true_eq_false, not_false_eq_true] <;> rfl) | (simp only [f_stored, hSx, hTx, c5, c13, if_true, if_false, Bool.true_eq_false, Bool.false_eq_true, reduceIte, reduceCtorEq, Bool.not_true, Bool.not_false, true_and, and_true, and_false, false_and, or_true, true_or, or_false, false_or, not_true_eq_false, not_false_eq_true] <;> rfl), hM, hF⟩
    · obtain ⟨b, hb, rfl⟩ := isIx_t c13 (by omega)
      have e2 : nx (nI b) = b := nx_nI (by omega)
      refine wp_iload_n (pc := 16) dX12_stored_16 rfl rfl ?_
      refine wp_iconst (pc := 17) (v := 0) dX12_stored_17 (by decide) ?_
      refine wp_iconst (pc := 18) (v := 1) dX12_stored_18 (by decide) ?_
      refine mp_callS (pc := 19) [_, _, _] dX12_stored_19 rfl cs_X12_153 rfl ⟨(Nat.le_of_ble_eq_true rfl), (Nat.le_of_ble_eq_true rfl)⟩ (Nat.le_of_ble_eq_true rfl) ⟨rfl, rfl⟩ (ms_in l G _ _ _ h) ?_
      refine wp_ifB_ne (pc := 22) (tgt := 29) dX12_stored_22 (by decide) (fun c22 => ?_) (fun c22 => ?_)
      · skip
        refine wp_iload_n (pc := 29) dX12_stored_29 rfl rfl ?_
        refine wp_if_ne (pc := 30) (tgt := 47) dX12_stored_30 (by decide) (fun c30 => ?_) (fun c30 => ?_)
        · skip
          refine wp_aload_n (pc := 47) dX12_stored_47 rfl rfl ?_
          refine wp_get (pc := 48) dX12_stored_48 fl_X12_133_13 hM.1 rfl ?_
          refine wp_bipush (pc := 51) (v := 20) dX12_stored_51 (by decide) ?_
          refine wp_iload_n (pc := 53) dX12_stored_53 rfl rfl ?_
          refine wp_imul (pc := 54) dX12_stored_54 ?_
          refine wp_iload_n (pc := 55) dX12_stored_55 rfl rfl ?_
          refine wp_iadd (pc := 56) dX12_stored_56 ?_
          refine wp_lald (pc := 57) (i := ((20 * s) + b)) dX12_stored_57 (hM.j 48 rfl) ⟨by simp only [nl1, nl5, nl8, nl20, pk_mul, nI_add], by omega, by decide⟩ ?_
          exact wp_lret (pc := 58) dX12_stored_58 rfl ⟨by first | (simp only [f_stored, hSx, hTx, e3, e2, c5, c13, c22, eq_false c30, if_true, if_false, Bool.true_eq_false, Bool.false_eq_true, reduceIte, reduceCtorEq, Bool.not_true, Bool.not_false, true_and, and_true, and_false, false_and, or_true, true_or, or_false, false_or, not_true_eq_false, not_false_eq_true]; done) | (simp only [f_stored, hSx, hTx, e3, c5, c13, c22, eq_false c30, if_true, if_false, Bool.true_eq_false, Bool.false_eq_true, reduceIte, reduceCtorEq, Bool.not_true, Bool.not_false, true_and, and_true, and_false, false_and, or_true, true_or, or_false, false_or, not_true_eq_false, not_false_eq_true]; done) | (simp only [f_stored, hSx, hTx, c5, c13, c22, eq_false c30, if_true, if_false, Bool.true_eq_false, Bool.false_eq_true, reduceIte, reduceCtorEq, Bool.not_true, Bool.not_false, true_and, and_true, and_false, false_and, or_true, true_or, or_false, false_or, not_true_eq_false, not_false_eq_true]; done) | (simp only [f_stored, hSx, hTx, e3, e2, c5, c13, c22, eq_false c30, if_true, if_false, Bool.true_eq_false, Bool.false_eq_true, reduceIte, reduceCtorEq, Bool.not_true, Bool.not_false, true_and, and_true, and_false, false_and, or_true, true_or, or_false, false_or, not_true_eq_false, not_false_eq_true] <;> rfl) | (simp only [f_stored, hSx, hTx, e3, c5, c13, c22, eq_false c30, if_true, if_false, Bool.true_eq_false, Bool.false_eq_true, reduceIte, reduceCtorEq, Bool.not_true, Bool.not_false, true_and, and_true, and_false, false_and, or_true, true_or, or_false, false_or, not_true_eq_false, not_false_eq_true] <;> rfl) | (simp only [f_stored, hSx, hTx, c5, c13, c22, eq_false c30, if_true, if_false, Bool.true_eq_false, Bool.false_eq_true, reduceIte, reduceCtorEq, Bool.not_true, Bool.not_false, true_and, and_true, and_false, false_and, or_true, true_or, or_false, false_or, not_true_eq_false, not_false_eq_true] <;> rfl), hM, hF⟩
        · skip
          refine wp_aload_n (pc := 33) dX12_stored_33 rfl rfl ?_
          refine wp_get (pc := 34) dX12_stored_34 fl_X12_130_13 hM.1 rfl ?_
          refine wp_bipush (pc := 37) (v := 20) dX12_stored_37 (by decide) ?_
          refine wp_iload_n (pc := 39) dX12_stored_39 rfl rfl ?_
          refine wp_imul (pc := 40) dX12_stored_40 ?_
          refine wp_iload_n (pc := 41) dX12_stored_41 rfl rfl ?_
          refine wp_iadd (pc := 42) dX12_stored_42 ?_
          refine wp_lald (pc := 43) (i := ((20 * s) + b)) dX12_stored_43 (hM.j 47 rfl) ⟨by simp only [nl1, nl5, nl8, nl20, pk_mul, nI_add], by omega, by decide⟩ ?_
          refine wp_goto (pc := 44) (tgt := 58) dX12_stored_44 (by decide) ?_
          exact wp_lret (pc := 58) dX12_stored_58 rfl ⟨by first | (simp only [f_stored, hSx, hTx, e3, e2, c5, c13, c22, eq_true c30, if_true, if_false, Bool.true_eq_false, Bool.false_eq_true, reduceIte, reduceCtorEq, Bool.not_true, Bool.not_false, true_and, and_true, and_false, false_and, or_true, true_or, or_false, false_or, not_true_eq_false, not_false_eq_true]; done) | (simp only [f_stored, hSx, hTx, e3, c5, c13, c22, eq_true c30, if_true, if_false, Bool.true_eq_false, Bool.false_eq_true, reduceIte, reduceCtorEq, Bool.not_true, Bool.not_false, true_and, and_true, and_false, false_and, or_true, true_or, or_false, false_or, not_true_eq_false, not_false_eq_true]; done) | (simp only [f_stored, hSx, hTx, c5, c13, c22, eq_true c30, if_true, if_false, Bool.true_eq_false, Bool.false_eq_true, reduceIte, reduceCtorEq, Bool.not_true, Bool.not_false, true_and, and_true, and_false, false_and, or_true, true_or, or_false, false_or, not_true_eq_false, not_false_eq_true]; done) | (simp only [f_stored, hSx, hTx, e3, e2, c5, c13, c22, eq_true c30, if_true, if_false, Bool.true_eq_false, Bool.false_eq_true, reduceIte, reduceCtorEq, Bool.not_true, Bool.not_false, true_and, and_true, and_false, false_and, or_true, true_or, or_false, false_or, not_true_eq_false, not_false_eq_true] <;> rfl) | (simp only [f_stored, hSx, hTx, e3, c5, c13, c22, eq_true c30, if_true, if_false, Bool.true_eq_false, Bool.false_eq_true, reduceIte, reduceCtorEq, Bool.not_true, Bool.not_false, true_and, and_true, and_false, false_and, or_true, true_or, or_false, false_or, not_true_eq_false, not_false_eq_true] <;> rfl) | (simp only [f_stored, hSx, hTx, c5, c13, c22, eq_true c30, if_true, if_false, Bool.true_eq_false, Bool.false_eq_true, reduceIte, reduceCtorEq, Bool.not_true, Bool.not_false, true_and, and_true, and_false, false_and, or_true, true_or, or_false, false_or, not_true_eq_false, not_false_eq_true] <;> rfl), hM, hF⟩
      · skip
        refine wp_ldc2_w (pc := 25) dX12_stored_25 w6_61 ?_
        exact wp_lret (pc := 28) dX12_stored_28 rfl ⟨by first | (simp only [f_stored, hSx, hTx, e3, e2, c5, c13, c22, if_true, if_false, Bool.true_eq_false, Bool.false_eq_true, reduceIte, reduceCtorEq, Bool.not_true, Bool.not_false, true_and, and_true, and_false, false_and, or_true, true_or, or_false, false_or, not_true_eq_false, not_false_eq_true]; done) | (simp only [f_stored, hSx, hTx, e3, c5, c13, c22, if_true, if_false, Bool.true_eq_false, Bool.false_eq_true, reduceIte, reduceCtorEq, Bool.not_true, Bool.not_false, true_and, and_true, and_false, false_and, or_true, true_or, or_false, false_or, not_true_eq_false, not_false_eq_true]; done) | (simp only [f_stored, hSx, hTx, c5, c13, c22, if_true, if_false, Bool.true_eq_false, Bool.false_eq_true, reduceIte, reduceCtorEq, Bool.not_true, Bool.not_false, true_and, and_true, and_false, false_and, or_true, true_or, or_false, false_or, not_true_eq_false, not_false_eq_true]; done) | (simp only [f_stored, hSx, hTx, e3, e2, c5, c13, c22, if_true, if_false, Bool.true_eq_false, Bool.false_eq_true, reduceIte, reduceCtorEq, Bool.not_true, Bool.not_false, true_and, and_true, and_false, false_and, or_true, true_or, or_false, false_or, not_true_eq_false, not_false_eq_true] <;> rfl) | (simp only [f_stored, hSx, hTx, e3, c5, c13, c22, if_true, if_false, Bool.true_eq_false, Bool.false_eq_true, reduceIte, reduceCtorEq, Bool.not_true, Bool.not_false, true_and, and_true, and_false, false_and, or_true, true_or, or_false, false_or, not_true_eq_false, not_false_eq_true] <;> rfl) | (simp only [f_stored, hSx, hTx, c5, c13, c22, if_true, if_false, Bool.true_eq_false, Bool.false_eq_true, reduceIte, reduceCtorEq, Bool.not_true, Bool.not_false, true_and, and_true, and_false, false_and, or_true, true_or, or_false, false_or, not_true_eq_false, not_false_eq_true] <;> rfl), hM, hF⟩
def udw (M : MS) : Nat → Int32
  | 0 => 0
  | n + 1 => udw M n + (if M.2.1 42 n = 0 then 1 else 0)
def clP (M : MS) (t : Nat) : Nat → Int32
  | 0 => 0
  | w + 1 => if mayB M w t = false then clP M t w else clP M t w + M.2.1 31 (20 * w + t)
def clW (M : MS) (t : Nat) : Nat → Bool
  | 0 => false
  | w + 1 => if mayB M w t = false then clW M t w else if clW M t w = true then true else if M.2.1 30 (20 * w + t) = 0 then true else false
def clsB (M : MS) (t : Nat) : Bool := if M.2.1 12 t = 2 then (if clP M t (nx (M.1 6)) ≤ M.2.1 14 t then false else true) else if clW M t (nx (M.1 6)) = false then false else if mysN M t (nx (M.1 6)) ≤ 1 then false else true
def clsN (M : MS) : Nat → Int32
  | 0 => 0
  | t + 1 => clsN M t + bi (clsB M t)
theorem ms_underWay {L : Nat} (hL : M.1 35 = nI L) (hL4 : L ≤ 400)  : MSp l G x am mX12_underWay [] M (some (.int (udw M L))) (M) := by
  refine MSp.intro (lv := [_, _, _]) (by decide) rfl (Nat.le_of_ble_eq_true rfl) (fun h0 h hM hF => ?_)
  generalize hQ0 : (fun (w9 : Option Value) (h' : Hp) => w9 = (some (.int (udw M L))) ∧ InM x am (M) h' ∧ Fr x am h0 h') = Q0
  have loop : ∀ i, i ≤ L → ∀ h, InM x am (M) h → Fr x am h0 h → wp l G mX12_underWay (zM G mX12_underWay Q0) 4 [some (.ref x), some (.int (udw M i)), some (.int (nI i))] [] h 0 0 := by
    refine loopU _ L (fun i hi ih => ?_) ?_
    · intro h hM hF
      refine wp_iload_n (pc := 4) dX12_underWay_4 rfl rfl ?_
      refine wp_aload_n (pc := 5) dX12_underWay_5 rfl rfl ?_
      refine wp_get (pc := 6) dX12_underWay_6 fl_X12_178_13 hM.1 rfl ?_
      refine wp_icmp_ge (pc := 9) (tgt := 35) dX12_underWay_9 (by decide) (fun z => absurd z (by rw [hL]; exact nI_ge hi (by omega))) (fun _ => ?_)
      refine wp_iload_n (pc := 12) dX12_underWay_12 rfl rfl ?_
      refine wp_aload_n (pc := 13) dX12_underWay_13 rfl rfl ?_
      refine wp_get (pc := 14) dX12_underWay_14 fl_X12_118_13 hM.1 rfl ?_
      refine wp_iload_n (pc := 17) dX12_underWay_17 rfl rfl ?_
      refine wp_iald (pc := 18) (i := i) dX12_underWay_18 (hM.i 42 rfl) ⟨rfl, by omega, by decide⟩ ?_
      refine wp_if_ne (pc := 19) (tgt := 26) dX12_underWay_19 (by decide) (fun c19 => ?_) (fun c19 => ?_)
      · skip
        refine wp_iconst (pc := 26) (v := 0) dX12_underWay_26 (by decide) ?_
        refine wp_iadd (pc := 27) dX12_underWay_27 ?_
        refine wp_istore_n (pc := 28) (lv' := [_, _, _]) dX12_underWay_28 rfl (Nat.le_of_ble_eq_true rfl) rfl rfl ?_
        refine wp_iinc (pc := 29) (v := _ + 1) (lv' := [_, _, _]) dX12_underWay_29 rfl rfl rfl rfl ?_
        refine wp_goto (pc := 32) (tgt := 4) dX12_underWay_32 (by decide) ?_
        exact wp_lv (ih h hM hF) (by simp [udw, nI_1, c19])
      · skip
        refine wp_iconst (pc := 22) (v := 1) dX12_underWay_22 (by decide) ?_
        refine wp_goto (pc := 23) (tgt := 27) dX12_underWay_23 (by decide) ?_
        refine wp_iadd (pc := 27) dX12_underWay_27 ?_
        refine wp_istore_n (pc := 28) (lv' := [_, _, _]) dX12_underWay_28 rfl (Nat.le_of_ble_eq_true rfl) rfl rfl ?_
        refine wp_iinc (pc := 29) (v := _ + 1) (lv' := [_, _, _]) dX12_underWay_29 rfl rfl rfl rfl ?_
        refine wp_goto (pc := 32) (tgt := 4) dX12_underWay_32 (by decide) ?_
        exact wp_lv (ih h hM hF) (by simp [udw, nI_1, c19])
    · intro h hM hF
      refine wp_iload_n (pc := 4) dX12_underWay_4 rfl rfl ?_
      refine wp_aload_n (pc := 5) dX12_underWay_5 rfl rfl ?_
      refine wp_get (pc := 6) dX12_underWay_6 fl_X12_178_13 hM.1 rfl ?_
      refine wp_icmp_ge (pc := 9) (tgt := 35) dX12_underWay_9 (by decide) (fun _ => ?_) (fun z => absurd (by rw [hL]; exact nI_le (Nat.le_refl _) (by omega)) z)
      refine wp_iload_n (pc := 35) dX12_underWay_35 rfl rfl ?_
      exact wp_iret (pc := 36) dX12_underWay_36 rfl (by rw [← hQ0]; exact ⟨rfl, hM, hF⟩)
  refine wp_iconst (pc := 0) (v := 0) dX12_underWay_0 (by decide) ?_
  refine wp_istore_n (pc := 1) (lv' := [_, _, _]) dX12_underWay_1 rfl (Nat.le_of_ble_eq_true rfl) rfl rfl ?_
  refine wp_iconst (pc := 2) (v := 0) dX12_underWay_2 (by decide) ?_
  refine wp_istore_n (pc := 3) (lv' := [_, _, _]) dX12_underWay_3 rfl (Nat.le_of_ble_eq_true rfl) rfl rfl ?_
  exact loop 0 (Nat.zero_le _) h hM hF
theorem ms_clashes (t : Nat) {W : Nat} (hW : M.1 6 = nI W) (hW2 : W ≤ 20) (ht : t < 20) : MSp l G x am mX12_clashes [.int (nI t)] M (some (.int (bi (clsB M t)))) (M) := by
  refine MSp.intro (lv := [_, _, _, _, _]) (by decide) rfl (Nat.le_of_ble_eq_true rfl) (fun h0 h hM hF => ?_)
  generalize hQ0 : (fun (w9 : Option Value) (h' : Hp) => w9 = (some (.int (bi (clsB M t)))) ∧ InM x am (M) h' ∧ Fr x am h0 h') = Q0
  have hWx : nx (M.1 6) = W := by rw [hW]; exact nx_nI (by omega)
  have loop : ∀ i, i ≤ W → ∀ h, InM x am (M) h → Fr x am h0 h → wp l G mX12_clashes (zM G mX12_clashes Q0) 7 [some (.ref x), some (.int (nI t)), some (.int (clP M t i)), some (.int (bi (clW M t i))), some (.int (nI i))] [] h 0 0 := by
    refine loopU _ W (fun i hi ih => ?_) ?_
    · intro h hM hF
      refine wp_iload (pc := 7) dX12_clashes_7 rfl ?_
      refine wp_aload_n (pc := 9) dX12_clashes_9 rfl rfl ?_
      refine wp_get (pc := 10) dX12_clashes_10 fl_X12_164_13 hM.1 rfl ?_
      refine wp_icmp_ge (pc := 13) (tgt := 72) dX12_clashes_13 (by decide) (fun z => absurd z (by rw [hW]; exact nI_ge hi (by omega))) (fun _ => ?_)
      refine wp_aload_n (pc := 16) dX12_clashes_16 rfl rfl ?_
      refine wp_iload (pc := 17) dX12_clashes_17 rfl ?_
      refine wp_iload_n (pc := 19) dX12_clashes_19 rfl rfl ?_
      refine mp_call (pc := 20) [_, _] dX12_clashes_20 rfl cv_X12_303_13 rfl ⟨(Nat.le_of_ble_eq_true rfl), (Nat.le_of_ble_eq_true rfl)⟩ (Nat.le_of_ble_eq_true rfl) ⟨rfl, rfl⟩ (ms_may l G x am _ _ _ (by omega) (by omega)) hM hF (fun h hM hF => ?_)
      refine wp_ifB_eq (pc := 23) (tgt := 66) dX12_clashes_23 (by decide) (fun c23 => ?_) (fun c23 => ?_)
      · skip
        refine wp_iinc (pc := 66) (v := _ + 1) (lv' := [_, _, _, _, _]) dX12_clashes_66 rfl rfl rfl rfl ?_
        refine wp_goto (pc := 69) (tgt := 7) dX12_clashes_69 (by decide) ?_
        exact wp_lv (ih h hM hF) (by simp [clP, clW, bi, nI_1, c23])
      · skip
        refine wp_iload_n (pc := 26) dX12_clashes_26 rfl rfl ?_
        refine wp_aload_n (pc := 27) dX12_clashes_27 rfl rfl ?_
        refine wp_get (pc := 28) dX12_clashes_28 fl_X12_88_13 hM.1 rfl ?_
        refine wp_bipush (pc := 31) (v := 20) dX12_clashes_31 (by decide) ?_
        refine wp_iload (pc := 33) dX12_clashes_33 rfl ?_
        refine wp_imul (pc := 35) dX12_clashes_35 ?_
        refine wp_iload_n (pc := 36) dX12_clashes_36 rfl rfl ?_
        refine wp_iadd (pc := 37) dX12_clashes_37 ?_
        refine wp_iald (pc := 38) (i := ((20 * i) + t)) dX12_clashes_38 (hM.i 31 rfl) ⟨by simp only [nl1, nl5, nl8, nl20, pk_mul, nI_add], by omega, by decide⟩ ?_
        refine wp_iadd (pc := 39) dX12_clashes_39 ?_
        refine wp_istore_n (pc := 40) (lv' := [_, _, _, _, _]) dX12_clashes_40 rfl (Nat.le_of_ble_eq_true rfl) rfl rfl ?_
        refine wp_iload_n (pc := 41) dX12_clashes_41 rfl rfl ?_
        refine wp_ifB_ne (pc := 42) (tgt := 60) dX12_clashes_42 (by decide) (fun c42 => ?_) (fun c42 => ?_)
        · skip
          refine wp_iconst (pc := 60) (v := 1) dX12_clashes_60 (by decide) ?_
          refine wp_goto (pc := 61) (tgt := 65) dX12_clashes_61 (by decide) ?_
          refine wp_istore_n (pc := 65) (lv' := [_, _, _, _, _]) dX12_clashes_65 rfl (Nat.le_of_ble_eq_true rfl) rfl rfl ?_
          refine wp_iinc (pc := 66) (v := _ + 1) (lv' := [_, _, _, _, _]) dX12_clashes_66 rfl rfl rfl rfl ?_
          refine wp_goto (pc := 69) (tgt := 7) dX12_clashes_69 (by decide) ?_
          exact wp_lv (ih h hM hF) (by simp [clP, clW, bi, nI_1, c23, c42])
        · skip
          refine wp_aload_n (pc := 45) dX12_clashes_45 rfl rfl ?_
          refine wp_get (pc := 46) dX12_clashes_46 fl_X12_85_13 hM.1 rfl ?_
          refine wp_bipush (pc := 49) (v := 20) dX12_clashes_49 (by decide) ?_
          refine wp_iload (pc := 51) dX12_clashes_51 rfl ?_
          refine wp_imul (pc := 53) dX12_clashes_53 ?_
          refine wp_iload_n (pc := 54) dX12_clashes_54 rfl rfl ?_
          refine wp_iadd (pc := 55) dX12_clashes_55 ?_
          refine wp_iald (pc := 56) (i := ((20 * i) + t)) dX12_clashes_56 (hM.i 30 rfl) ⟨by simp only [nl1, nl5, nl8, nl20, pk_mul, nI_add], by omega, by decide⟩ ?_
          refine wp_if_ne (pc := 57) (tgt := 64) dX12_clashes_57 (by decide) (fun c57 => ?_) (fun c57 => ?_)
          · skip
            refine wp_iconst (pc := 64) (v := 0) dX12_clashes_64 (by decide) ?_
            refine wp_istore_n (pc := 65) (lv' := [_, _, _, _, _]) dX12_clashes_65 rfl (Nat.le_of_ble_eq_true rfl) rfl rfl ?_
            refine wp_iinc (pc := 66) (v := _ + 1) (lv' := [_, _, _, _, _]) dX12_clashes_66 rfl rfl rfl rfl ?_
            refine wp_goto (pc := 69) (tgt := 7) dX12_clashes_69 (by decide) ?_
            exact wp_lv (ih h hM hF) (by simp [clP, clW, bi, nI_1, c23, c42, eq_false c57])
          · skip
            refine wp_iconst (pc := 60) (v := 1) dX12_clashes_60 (by decide) ?_
            refine wp_goto (pc := 61) (tgt := 65) dX12_clashes_61 (by decide) ?_
            refine wp_istore_n (pc := 65) (lv' := [_, _, _, _, _]) dX12_clashes_65 rfl (Nat.le_of_ble_eq_true rfl) rfl rfl ?_
            refine wp_iinc (pc := 66) (v := _ + 1) (lv' := [_, _, _, _, _]) dX12_clashes_66 rfl rfl rfl rfl ?_
            refine wp_goto (pc := 69) (tgt := 7) dX12_clashes_69 (by decide) ?_
            exact wp_lv (ih h hM hF) (by simp [clP, clW, bi, nI_1, c23, c42, eq_true c57])
    · intro h hM hF
      refine wp_iload (pc := 7) dX12_clashes_7 rfl ?_
      refine wp_aload_n (pc := 9) dX12_clashes_9 rfl rfl ?_
      refine wp_get (pc := 10) dX12_clashes_10 fl_X12_164_13 hM.1 rfl ?_
      refine wp_icmp_ge (pc := 13) (tgt := 72) dX12_clashes_13 (by decide) (fun _ => ?_) (fun z => absurd (by rw [hW]; exact nI_le (Nat.le_refl _) (by omega)) z)
      refine wp_aload_n (pc := 72) dX12_clashes_72 rfl rfl ?_
      refine wp_get (pc := 73) dX12_clashes_73 fl_X12_32_13 hM.1 rfl ?_
      refine wp_iload_n (pc := 76) dX12_clashes_76 rfl rfl ?_
      refine wp_iald (pc := 77) (i := t) dX12_clashes_77 (hM.i 12 rfl) ⟨rfl, by omega, by decide⟩ ?_
      refine wp_iconst (pc := 78) (v := 2) dX12_clashes_78 (by decide) ?_
      refine wp_icmp_ne (pc := 79) (tgt := 100) dX12_clashes_79 (by decide) (fun c79 => ?_) (fun c79 => ?_)
      · skip
        refine wp_iload_n (pc := 100) dX12_clashes_100 rfl rfl ?_
        refine wp_ifB_eq (pc := 101) (tgt := 117) dX12_clashes_101 (by decide) (fun c101 => ?_) (fun c101 => ?_)
        · skip
          refine wp_iconst (pc := 117) (v := 0) dX12_clashes_117 (by decide) ?_
          exact wp_zret (pc := 118) dX12_clashes_118 rfl (by decide) (by rw [← hQ0]; exact ⟨by simp only [clsB, hWx, eq_false c79, c101, bi, if_true, if_false, Bool.true_eq_false, Bool.false_eq_true, reduceIte, reduceCtorEq, Bool.not_true, Bool.not_false, true_and, and_true, and_false, false_and, or_true, true_or, or_false, false_or, not_true_eq_false, not_false_eq_true], hM, hF⟩)
        · skip
          refine wp_aload_n (pc := 104) dX12_clashes_104 rfl rfl ?_
          refine wp_iload_n (pc := 105) dX12_clashes_105 rfl rfl ?_
          refine mp_call (pc := 106) [_] dX12_clashes_106 rfl cv_X12_306_13 rfl ⟨(Nat.le_of_ble_eq_true rfl), (Nat.le_of_ble_eq_true rfl)⟩ (Nat.le_of_ble_eq_true rfl) ⟨rfl, rfl⟩ (ms_mays l G x am _ _ (by exact hW) hW2 (by omega)) hM hF (fun h hM hF => ?_)
          refine wp_iconst (pc := 109) (v := 1) dX12_clashes_109 (by decide) ?_
          refine wp_icmp_le (pc := 110) (tgt := 117) dX12_clashes_110 (by decide) (fun c110 => ?_) (fun c110 => ?_)
          · skip
            refine wp_iconst (pc := 117) (v := 0) dX12_clashes_117 (by decide) ?_
            exact wp_zret (pc := 118) dX12_clashes_118 rfl (by decide) (by rw [← hQ0]; exact ⟨by simp only [clsB, hWx, eq_false c79, c101, eq_true c110, bi, if_true, if_false, Bool.true_eq_false, Bool.false_eq_true, reduceIte, reduceCtorEq, Bool.not_true, Bool.not_false, true_and, and_true, and_false, false_and, or_true, true_or, or_false, false_or, not_true_eq_false, not_false_eq_true], hM, hF⟩)
          · skip
            refine wp_iconst (pc := 113) (v := 1) dX12_clashes_113 (by decide) ?_
            refine wp_goto (pc := 114) (tgt := 118) dX12_clashes_114 (by decide) ?_
            exact wp_zret (pc := 118) dX12_clashes_118 rfl (by decide) (by rw [← hQ0]; exact ⟨by simp only [clsB, hWx, eq_false c79, c101, eq_false c110, bi, if_true, if_false, Bool.true_eq_false, Bool.false_eq_true, reduceIte, reduceCtorEq, Bool.not_true, Bool.not_false, true_and, and_true, and_false, false_and, or_true, true_or, or_false, false_or, not_true_eq_false, not_false_eq_true], hM, hF⟩)
      · skip
        refine wp_iload_n (pc := 82) dX12_clashes_82 rfl rfl ?_
        refine wp_aload_n (pc := 83) dX12_clashes_83 rfl rfl ?_
        refine wp_get (pc := 84) dX12_clashes_84 fl_X12_38_13 hM.1 rfl ?_
        refine wp_iload_n (pc := 87) dX12_clashes_87 rfl rfl ?_
        refine wp_iald (pc := 88) (i := t) dX12_clashes_88 (hM.i 14 rfl) ⟨rfl, by omega, by decide⟩ ?_
        refine wp_icmp_le (pc := 89) (tgt := 96) dX12_clashes_89 (by decide) (fun c89 => ?_) (fun c89 => ?_)
        · skip
          refine wp_iconst (pc := 96) (v := 0) dX12_clashes_96 (by decide) ?_
          refine wp_goto (pc := 97) (tgt := 118) dX12_clashes_97 (by decide) ?_
          exact wp_zret (pc := 118) dX12_clashes_118 rfl (by decide) (by rw [← hQ0]; exact ⟨by simp only [clsB, hWx, eq_true c79, eq_true c89, bi, if_true, if_false, Bool.true_eq_false, Bool.false_eq_true, reduceIte, reduceCtorEq, Bool.not_true, Bool.not_false, true_and, and_true, and_false, false_and, or_true, true_or, or_false, false_or, not_true_eq_false, not_false_eq_true], hM, hF⟩)
        · skip
          refine wp_iconst (pc := 92) (v := 1) dX12_clashes_92 (by decide) ?_
          refine wp_goto (pc := 93) (tgt := 118) dX12_clashes_93 (by decide) ?_
          exact wp_zret (pc := 118) dX12_clashes_118 rfl (by decide) (by rw [← hQ0]; exact ⟨by simp only [clsB, hWx, eq_true c79, eq_false c89, bi, if_true, if_false, Bool.true_eq_false, Bool.false_eq_true, reduceIte, reduceCtorEq, Bool.not_true, Bool.not_false, true_and, and_true, and_false, false_and, or_true, true_or, or_false, false_or, not_true_eq_false, not_false_eq_true], hM, hF⟩)
  refine wp_iconst (pc := 0) (v := 0) dX12_clashes_0 (by decide) ?_
  refine wp_istore_n (pc := 1) (lv' := [_, _, _, _, _]) dX12_clashes_1 rfl (Nat.le_of_ble_eq_true rfl) rfl rfl ?_
  refine wp_iconst (pc := 2) (v := 0) dX12_clashes_2 (by decide) ?_
  refine wp_istore_n (pc := 3) (lv' := [_, _, _, _, _]) dX12_clashes_3 rfl (Nat.le_of_ble_eq_true rfl) rfl rfl ?_
  refine wp_iconst (pc := 4) (v := 0) dX12_clashes_4 (by decide) ?_
  refine wp_istore (pc := 5) (lv' := [_, _, _, _, _]) dX12_clashes_5 (Nat.le_of_ble_eq_true rfl) rfl rfl ?_
  exact loop 0 (Nat.zero_le _) h hM hF
end M9
