/-! ===== the reference: counts and trays ===== -/
def f_count (M : MS) (what : Int32) : Int32 := if what = 0 then M.1 2 else if what = 1 then M.1 6 else if what = 2 then M.1 11 else if what = 3 then M.1 46 else if what = 4 then M.1 35 else if what = 5 then udw M (nx (M.1 35)) else if what = 6 then awk M (nx (M.1 2)) else if what = 7 then M.1 27 else if what = 8 then M.1 28 else if what = 9 then M.1 49 else if what = 10 then M.1 50 else if what = 11 then M.1 51 else if what = 12 then M.1 52 else if what = 13 then M.1 53 else if what = 14 then clsN M (nx (M.1 11)) else -2
def putOk (M : MS) (what n : Int32) : Bool := if what = 0 then true else if what = 2 then isIx n (nx (M.1 35)) else if what = 1 then isIx n (nx (M.1 11)) else if what = 3 then isIx n (nx (M.1 11)) else if what = 4 then isIx n (nx (M.1 11)) else false
def putB (M : MS) (y : Nat) (what n : Int32) : MS :=
  let B := sI (sI M 54 y what) 55 y n
  sI B 56 y (if what = 3 then B.2.1 21 (nx n) else if what = 4 then B.1 6 else 0)
def putR (M : MS) (y : Nat) (what n : Int32) : Nat → MS
  | 0 => putB M y what n
  | i + 1 => sL (putR M y what n i) 57 (20 * y + i) (if what = 3 then (putR M y what n i).2.2 25 (20 * nx n + i) else if mayB (putR M y what n i) i (nx n) = false then 0 else 1)
def f_put (M : MS) (tr what n : Int32) : Int32 × MS := if fin tr 0 5 = false then (-1, sS M 58 1) else if putOk M what n = false then (-1, sS M 58 1) else (1, sS (putR M (nx tr) what n (nx (if what = 3 then M.2.1 21 (nx n) else if what = 4 then M.1 6 else 0))) 58 0)
def isUn (k o : Int32) : Bool := if o = 0 then true else if k = o then true else if k = 2 then (if o = 1 then true else false) else false
def f_asThing (M : MS) (y : Nat) (n : Int32) : Int32 × MS := if M.2.1 54 y = 0 then (-1, sS M 58 10) else if M.2.1 54 y = 1 then (if isUn (M.2.1 12 (nx (M.2.1 55 y))) (if 0 ≤ n - n / 5 * 5 then n - n / 5 * 5 else n - n / 5 * 5 + 5) = false then (-1, sS M 58 11) else (M.2.1 13 (nx (M.2.1 55 y)), sS M 58 0)) else (-1, sS M 58 11)
def f_asLetter (M : MS) (y : Nat) (n : Int32) : Int32 × MS := if M.2.1 54 y = 0 then (-1, sS M 58 10) else if M.2.1 54 y = 2 then (if (if 4 ≤ M.2.1 36 (nx (M.2.1 55 y)) then (0 : Int32) else 1) = (if n - n / 2 * 2 = 0 then (1 : Int32) else 0) then (M.2.1 39 (nx (M.2.1 55 y)), sS M 58 0) else (-1, sS M 58 11)) else (-1, sS M 58 11)
def f_asRow (M : MS) (y : Nat) (what n : Int32) : Int32 × MS := if M.2.1 54 y = 0 then (-1, sS M 58 10) else if M.2.1 54 y = what then (if isIx n (nx (M.2.1 56 y)) = false then (-1, sS M 58 12) else ((M.2.2 57 (20 * y + nx n)).toInt32, sS M 58 0)) else (-1, sS M 58 11)
def cpS (M : MS) (y : Nat) : Nat → Int64
  | 0 => 0
  | i + 1 => cpS M y i + M.2.2 57 (20 * y + 1 + i)
def f_copied (M : MS) (y : Nat) (n : Int32) : Int32 × MS := if M.2.1 54 y = 0 then (-1, sS M 58 10) else if M.2.1 54 y = 3 then (if n < 0 then (-1, sS M 58 12) else if M.2.1 56 y < 1 + n then (-1, sS M 58 12) else if 2 * n ≤ 5 then ((cpS M y (nx n)).toInt32, sS M 58 0) else (-1, sS M 58 12)) else (-1, sS M 58 11)
def f_laid (M : MS) (y : Nat) : Int32 × MS := if M.2.1 54 y = 0 then (0, sS M 58 0) else if M.2.1 54 y = 1 then (if isUn (M.2.1 12 (nx (M.2.1 55 y))) 1 = false then (-1, sS M 58 14) else (M.2.1 13 (nx (M.2.1 55 y)), sS M 58 0)) else (-1, sS M 58 14)
def f_forge (M : MS) (tr what n : Int32) : Int32 × MS := if fin tr 0 5 = false then (-1, sS M 58 1) else if fin what 0 8 = false then (-1, sS M 58 1) else if fin n (-100) 100 = false then (-1, sS M 58 1) else if what = 0 then f_asThing M (nx tr) n else if what = 1 then f_asLetter M (nx tr) n else if what = 2 then f_asRow M (nx tr) 3 n else if what = 3 then f_asRow M (nx tr) 4 n else if what = 4 then (if 0 ≤ n then (n, sS M 58 0) else (-1, sS M 58 13)) else if what = 5 then f_copied M (nx tr) n else if what = 6 then f_laid M (nx tr) else if what = 7 then (if n = 0 then (-1, sS M 58 15) else (1000 / n, sS M 58 0)) else (-1, sS M 58 10)
theorem fin_ix5 {v : Int32} (h : fin v 0 5 = true) : ∃ j, j < 6 ∧ v = nI j := by
  rw [show (5 : Int32) = nI 6 - 1 from rfl, fin_ix v (by decide)] at h
  exact isIx_t h (by decide)
section M10
variable (l : Launch) (G : WG) (x : Nat) (am : Nat → Nat) (M : MS)
theorem ms_done (v : Int32)   : MSp l G x am mX12_done [.int v] M (some (.int v)) (sS M 58 0) := by
  refine MSp.intro (lv := [_, _]) (by decide) rfl (Nat.le_of_ble_eq_true rfl) (fun h0 h hM hF => ?_)
  refine wp_aload_n (pc := 0) dX12_done_0 rfl rfl ?_
  refine wp_iconst (pc := 1) (v := 0) dX12_done_1 (by decide) ?_
  refine mp_putS (pc := 2) dX12_done_2 fl_X12_321_13 hM hF rfl rfl (by decide) rfl (fun h hM hF => ?_)
  refine wp_iload_n (pc := 5) dX12_done_5 rfl rfl ?_
  exact wp_iret (pc := 6) dX12_done_6 rfl ⟨rfl, hM, hF⟩
theorem ms_refuse (v : Int32)   : MSp l G x am mX12_refuse [.int v] M (some (.int (-1))) (sS M 58 v) := by
  refine MSp.intro (lv := [_, _]) (by decide) rfl (Nat.le_of_ble_eq_true rfl) (fun h0 h hM hF => ?_)
  refine wp_aload_n (pc := 0) dX12_refuse_0 rfl rfl ?_
  refine wp_iload_n (pc := 1) dX12_refuse_1 rfl rfl ?_
  refine mp_putS (pc := 2) dX12_refuse_2 fl_X12_321_13 hM hF rfl rfl (by decide) rfl (fun h hM hF => ?_)
  refine wp_iconst (pc := 5) (v := (-1)) dX12_refuse_5 (by decide) ?_
  exact wp_iret (pc := 6) dX12_refuse_6 rfl ⟨rfl, hM, hF⟩
theorem ms_status    : MSp l G x am mX12_status [] M (some (.int (M.1 58))) M := by
  refine MSp.intro (lv := [_]) (by decide) rfl (Nat.le_of_ble_eq_true rfl) (fun h0 h hM hF => ?_)
  refine wp_aload_n (pc := 0) dX12_status_0 rfl rfl ?_
  refine wp_get (pc := 1) dX12_status_1 fl_X12_321_13 hM.1 rfl ?_
  exact wp_iret (pc := 4) dX12_status_4 rfl ⟨rfl, hM, hF⟩
theorem ms_isUnder (v q : Int32) (h : Hp) : Sp l G mX12_isUnder [.int v, .int q] h (fun w h' => w = some (.int (bi (isUn v q))) ∧ h' = h) := by
  refine Sp.intro (lv := [_, _]) (by decide) rfl (Nat.le_of_ble_eq_true rfl) ?_
  refine wp_iload_n (pc := 0) dX12_isUnder_0 rfl rfl ?_
  refine wp_if_eq (pc := 1) (tgt := 19) dX12_isUnder_1 (by decide) (fun c1 => ?_) (fun c1 => ?_)
  · skip
    refine wp_iconst (pc := 19) (v := 1) dX12_isUnder_19 (by decide) ?_
    refine wp_goto (pc := 20) (tgt := 24) dX12_isUnder_20 (by decide) ?_
    exact wp_zret (pc := 24) dX12_isUnder_24 rfl (by decide) ⟨by simp only [isUn, bi, eq_true c1, if_true, if_false, Bool.true_eq_false, Bool.false_eq_true, reduceIte, reduceCtorEq, Bool.not_true, Bool.not_false, true_and, and_true, and_false, false_and, or_true, true_or, or_false, false_or, not_true_eq_false, not_false_eq_true], rfl⟩
  · skip
    refine wp_iload_n (pc := 4) dX12_isUnder_4 rfl rfl ?_
    refine wp_iload_n (pc := 5) dX12_isUnder_5 rfl rfl ?_
    refine wp_icmp_eq (pc := 6) (tgt := 19) dX12_isUnder_6 (by decide) (fun c6 => ?_) (fun c6 => ?_)
    · skip
      refine wp_iconst (pc := 19) (v := 1) dX12_isUnder_19 (by decide) ?_
      refine wp_goto (pc := 20) (tgt := 24) dX12_isUnder_20 (by decide) ?_
      exact wp_zret (pc := 24) dX12_isUnder_24 rfl (by decide) ⟨by simp only [isUn, bi, eq_false c1, eq_true c6, if_true, if_false, Bool.true_eq_false, Bool.false_eq_true, reduceIte, reduceCtorEq, Bool.not_true, Bool.not_false, true_and, and_true, and_false, false_and, or_true, true_or, or_false, false_or, not_true_eq_false, not_false_eq_true], rfl⟩
    · skip
      refine wp_iload_n (pc := 9) dX12_isUnder_9 rfl rfl ?_
      refine wp_iconst (pc := 10) (v := 2) dX12_isUnder_10 (by decide) ?_
      refine wp_icmp_ne (pc := 11) (tgt := 23) dX12_isUnder_11 (by decide) (fun c11 => ?_) (fun c11 => ?_)
      · skip
        refine wp_iconst (pc := 23) (v := 0) dX12_isUnder_23 (by decide) ?_
        exact wp_zret (pc := 24) dX12_isUnder_24 rfl (by decide) ⟨by simp only [isUn, bi, eq_false c1, eq_false c6, eq_false c11, if_true, if_false, Bool.true_eq_false, Bool.false_eq_true, reduceIte, reduceCtorEq, Bool.not_true, Bool.not_false, true_and, and_true, and_false, false_and, or_true, true_or, or_false, false_or, not_true_eq_false, not_false_eq_true], rfl⟩
      · skip
        refine wp_iload_n (pc := 14) dX12_isUnder_14 rfl rfl ?_
        refine wp_iconst (pc := 15) (v := 1) dX12_isUnder_15 (by decide) ?_
        refine wp_icmp_ne (pc := 16) (tgt := 23) dX12_isUnder_16 (by decide) (fun c16 => ?_) (fun c16 => ?_)
        · skip
          refine wp_iconst (pc := 23) (v := 0) dX12_isUnder_23 (by decide) ?_
          exact wp_zret (pc := 24) dX12_isUnder_24 rfl (by decide) ⟨by simp only [isUn, bi, eq_false c1, eq_false c6, eq_true c11, eq_false c16, if_true, if_false, Bool.true_eq_false, Bool.false_eq_true, reduceIte, reduceCtorEq, Bool.not_true, Bool.not_false, true_and, and_true, and_false, false_and, or_true, true_or, or_false, false_or, not_true_eq_false, not_false_eq_true], rfl⟩
        · skip
          refine wp_iconst (pc := 19) (v := 1) dX12_isUnder_19 (by decide) ?_
          refine wp_goto (pc := 20) (tgt := 24) dX12_isUnder_20 (by decide) ?_
          exact wp_zret (pc := 24) dX12_isUnder_24 rfl (by decide) ⟨by simp only [isUn, bi, eq_false c1, eq_false c6, eq_true c11, eq_true c16, if_true, if_false, Bool.true_eq_false, Bool.false_eq_true, reduceIte, reduceCtorEq, Bool.not_true, Bool.not_false, true_and, and_true, and_false, false_and, or_true, true_or, or_false, false_or, not_true_eq_false, not_false_eq_true], rfl⟩
theorem ms_count (what : Int32) {K : Nat} (hK : M.1 2 = nI K) (hK5 : K ≤ 5) {W : Nat} (hW : M.1 6 = nI W) (hW2 : W ≤ 20) {N : Nat} (hT : M.1 11 = nI N) (hT2 : N ≤ 20) {L : Nat} (hL : M.1 35 = nI L) (hL4 : L ≤ 400) : MSp l G x am mX12_count [.int what] M (some (.int (f_count M what))) (M) := by
  refine MSp.intro (lv := [_, _, _, _]) (by decide) rfl (Nat.le_of_ble_eq_true rfl) (fun h0 h hM hF => ?_)
  generalize hQ0 : (fun (w9 : Option Value) (h' : Hp) => w9 = (some (.int (f_count M what))) ∧ InM x am (M) h' ∧ Fr x am h0 h') = Q0
  have hKx : nx (M.1 2) = K := by rw [hK]; exact nx_nI (by omega)
  have hTx : nx (M.1 11) = N := by rw [hT]; exact nx_nI (by omega)
  have hLx : nx (M.1 35) = L := by rw [hL]; exact nx_nI (by omega)
  refine wp_iload_n (pc := 0) dX12_count_0 rfl rfl ?_
  refine wp_tsw_0_14 (pc := 1) dX12_count_1 (t0 := 76) (t1 := 81) (t2 := 86) (t3 := 91) (t4 := 96) (t5 := 101) (t6 := 106) (t7 := 111) (t8 := 116) (t9 := 121) (t10 := 126) (t11 := 131) (t12 := 136) (t13 := 141) (t14 := 146) (td := 182) (by decide) (by decide) (by decide) (by decide) (by decide) (by decide) (by decide) (by decide) (by decide) (by decide) (by decide) (by decide) (by decide) (by decide) (by decide) (by decide) (fun c1 => ?_) (fun c1 => ?_) (fun c1 => ?_) (fun c1 => ?_) (fun c1 => ?_) (fun c1 => ?_) (fun c1 => ?_) (fun c1 => ?_) (fun c1 => ?_) (fun c1 => ?_) (fun c1 => ?_) (fun c1 => ?_) (fun c1 => ?_) (fun c1 => ?_) (fun c1 => ?_) (fun c1 => ?_)
  · skip
    refine wp_aload_n (pc := 76) dX12_count_76 rfl rfl ?_
    refine wp_get (pc := 77) dX12_count_77 fl_X12_161_13 hM.1 rfl ?_
    exact wp_iret (pc := 80) dX12_count_80 rfl (by rw [← hQ0]; exact ⟨by subst c1; simp only [f_count, hKx, hLx, if_true, if_false, Bool.true_eq_false, Bool.false_eq_true, reduceIte, reduceCtorEq, Bool.not_true, Bool.not_false, true_and, and_true, and_false, false_and, or_true, true_or, or_false, false_or, not_true_eq_false, not_false_eq_true] <;> rfl, hM, hF⟩)
  · skip
    refine wp_aload_n (pc := 81) dX12_count_81 rfl rfl ?_
    refine wp_get (pc := 82) dX12_count_82 fl_X12_164_13 hM.1 rfl ?_
    exact wp_iret (pc := 85) dX12_count_85 rfl (by rw [← hQ0]; exact ⟨by subst c1; simp only [f_count, hKx, hLx, if_true, if_false, Bool.true_eq_false, Bool.false_eq_true, reduceIte, reduceCtorEq, Bool.not_true, Bool.not_false, true_and, and_true, and_false, false_and, or_true, true_or, or_false, false_or, not_true_eq_false, not_false_eq_true] <;> rfl, hM, hF⟩)
  · skip
    refine wp_aload_n (pc := 86) dX12_count_86 rfl rfl ?_
    refine wp_get (pc := 87) dX12_count_87 fl_X12_167_13 hM.1 rfl ?_
    exact wp_iret (pc := 90) dX12_count_90 rfl (by rw [← hQ0]; exact ⟨by subst c1; simp only [f_count, hKx, hLx, if_true, if_false, Bool.true_eq_false, Bool.false_eq_true, reduceIte, reduceCtorEq, Bool.not_true, Bool.not_false, true_and, and_true, and_false, false_and, or_true, true_or, or_false, false_or, not_true_eq_false, not_false_eq_true] <;> rfl, hM, hF⟩)
  · skip
    refine wp_aload_n (pc := 91) dX12_count_91 rfl rfl ?_
    refine wp_get (pc := 92) dX12_count_92 fl_X12_170_13 hM.1 rfl ?_
    exact wp_iret (pc := 95) dX12_count_95 rfl (by rw [← hQ0]; exact ⟨by subst c1; simp only [f_count, hKx, hLx, if_true, if_false, Bool.true_eq_false, Bool.false_eq_true, reduceIte, reduceCtorEq, Bool.not_true, Bool.not_false, true_and, and_true, and_false, false_and, or_true, true_or, or_false, false_or, not_true_eq_false, not_false_eq_true] <;> rfl, hM, hF⟩)
  · skip
    refine wp_aload_n (pc := 96) dX12_count_96 rfl rfl ?_
    refine wp_get (pc := 97) dX12_count_97 fl_X12_178_13 hM.1 rfl ?_
    exact wp_iret (pc := 100) dX12_count_100 rfl (by rw [← hQ0]; exact ⟨by subst c1; simp only [f_count, hKx, hLx, if_true, if_false, Bool.true_eq_false, Bool.false_eq_true, reduceIte, reduceCtorEq, Bool.not_true, Bool.not_false, true_and, and_true, and_false, false_and, or_true, true_or, or_false, false_or, not_true_eq_false, not_false_eq_true] <;> rfl, hM, hF⟩)
  · skip
    refine wp_aload_n (pc := 101) dX12_count_101 rfl rfl ?_
    refine mp_call (pc := 102) [] dX12_count_102 rfl cv_X12_315_13 rfl ⟨(Nat.le_of_ble_eq_true rfl), (Nat.le_of_ble_eq_true rfl)⟩ (Nat.le_of_ble_eq_true rfl) ⟨rfl, rfl⟩ (ms_underWay l G x am _ (by exact hL) hL4) hM hF (fun h hM hF => ?_)
    exact wp_iret (pc := 105) dX12_count_105 rfl (by rw [← hQ0]; exact ⟨by subst c1; simp only [f_count, hKx, hLx, if_true, if_false, Bool.true_eq_false, Bool.false_eq_true, reduceIte, reduceCtorEq, Bool.not_true, Bool.not_false, true_and, and_true, and_false, false_and, or_true, true_or, or_false, false_or, not_true_eq_false, not_false_eq_true] <;> rfl, hM, hF⟩)
  · skip
    refine wp_aload_n (pc := 106) dX12_count_106 rfl rfl ?_
    refine mp_call (pc := 107) [] dX12_count_107 rfl cv_X12_199_13 rfl ⟨(Nat.le_of_ble_eq_true rfl), (Nat.le_of_ble_eq_true rfl)⟩ (Nat.le_of_ble_eq_true rfl) ⟨rfl, rfl⟩ (ms_awake l G x am _ (by exact hK) hK5) hM hF (fun h hM hF => ?_)
    exact wp_iret (pc := 110) dX12_count_110 rfl (by rw [← hQ0]; exact ⟨by subst c1; simp only [f_count, hKx, hLx, if_true, if_false, Bool.true_eq_false, Bool.false_eq_true, reduceIte, reduceCtorEq, Bool.not_true, Bool.not_false, true_and, and_true, and_false, false_and, or_true, true_or, or_false, false_or, not_true_eq_false, not_false_eq_true] <;> rfl, hM, hF⟩)
  · skip
    refine wp_aload_n (pc := 111) dX12_count_111 rfl rfl ?_
    refine wp_get (pc := 112) dX12_count_112 fl_X12_78_13 hM.1 rfl ?_
    exact wp_iret (pc := 115) dX12_count_115 rfl (by rw [← hQ0]; exact ⟨by subst c1; simp only [f_count, hKx, hLx, if_true, if_false, Bool.true_eq_false, Bool.false_eq_true, reduceIte, reduceCtorEq, Bool.not_true, Bool.not_false, true_and, and_true, and_false, false_and, or_true, true_or, or_false, false_or, not_true_eq_false, not_false_eq_true] <;> rfl, hM, hF⟩)
  · skip
    refine wp_aload_n (pc := 116) dX12_count_116 rfl rfl ?_
    refine wp_get (pc := 117) dX12_count_117 fl_X12_207_13 hM.1 rfl ?_
    exact wp_iret (pc := 120) dX12_count_120 rfl (by rw [← hQ0]; exact ⟨by subst c1; simp only [f_count, hKx, hLx, if_true, if_false, Bool.true_eq_false, Bool.false_eq_true, reduceIte, reduceCtorEq, Bool.not_true, Bool.not_false, true_and, and_true, and_false, false_and, or_true, true_or, or_false, false_or, not_true_eq_false, not_false_eq_true] <;> rfl, hM, hF⟩)
  · skip
    refine wp_aload_n (pc := 121) dX12_count_121 rfl rfl ?_
    refine wp_get (pc := 122) dX12_count_122 fl_X12_248_13 hM.1 rfl ?_
    exact wp_iret (pc := 125) dX12_count_125 rfl (by rw [← hQ0]; exact ⟨by subst c1; simp only [f_count, hKx, hLx, if_true, if_false, Bool.true_eq_false, Bool.false_eq_true, reduceIte, reduceCtorEq, Bool.not_true, Bool.not_false, true_and, and_true, and_false, false_and, or_true, true_or, or_false, false_or, not_true_eq_false, not_false_eq_true] <;> rfl, hM, hF⟩)
  · skip
    refine wp_aload_n (pc := 126) dX12_count_126 rfl rfl ?_
    refine wp_get (pc := 127) dX12_count_127 fl_X12_251_13 hM.1 rfl ?_
    exact wp_iret (pc := 130) dX12_count_130 rfl (by rw [← hQ0]; exact ⟨by subst c1; simp only [f_count, hKx, hLx, if_true, if_false, Bool.true_eq_false, Bool.false_eq_true, reduceIte, reduceCtorEq, Bool.not_true, Bool.not_false, true_and, and_true, and_false, false_and, or_true, true_or, or_false, false_or, not_true_eq_false, not_false_eq_true] <;> rfl, hM, hF⟩)
  · skip
    refine wp_aload_n (pc := 131) dX12_count_131 rfl rfl ?_
    refine wp_get (pc := 132) dX12_count_132 fl_X12_257_13 hM.1 rfl ?_
    exact wp_iret (pc := 135) dX12_count_135 rfl (by rw [← hQ0]; exact ⟨by subst c1; simp only [f_count, hKx, hLx, if_true, if_false, Bool.true_eq_false, Bool.false_eq_true, reduceIte, reduceCtorEq, Bool.not_true, Bool.not_false, true_and, and_true, and_false, false_and, or_true, true_or, or_false, false_or, not_true_eq_false, not_false_eq_true] <;> rfl, hM, hF⟩)
  · skip
    refine wp_aload_n (pc := 136) dX12_count_136 rfl rfl ?_
    refine wp_get (pc := 137) dX12_count_137 fl_X12_294_13 hM.1 rfl ?_
    exact wp_iret (pc := 140) dX12_count_140 rfl (by rw [← hQ0]; exact ⟨by subst c1; simp only [f_count, hKx, hLx, if_true, if_false, Bool.true_eq_false, Bool.false_eq_true, reduceIte, reduceCtorEq, Bool.not_true, Bool.not_false, true_and, and_true, and_false, false_and, or_true, true_or, or_false, false_or, not_true_eq_false, not_false_eq_true] <;> rfl, hM, hF⟩)
  · skip
    refine wp_aload_n (pc := 141) dX12_count_141 rfl rfl ?_
    refine wp_get (pc := 142) dX12_count_142 fl_X12_312_13 hM.1 rfl ?_
    exact wp_iret (pc := 145) dX12_count_145 rfl (by rw [← hQ0]; exact ⟨by subst c1; simp only [f_count, hKx, hLx, if_true, if_false, Bool.true_eq_false, Bool.false_eq_true, reduceIte, reduceCtorEq, Bool.not_true, Bool.not_false, true_and, and_true, and_false, false_and, or_true, true_or, or_false, false_or, not_true_eq_false, not_false_eq_true] <;> rfl, hM, hF⟩)
  · skip
    refine wp_iconst (pc := 146) (v := 0) dX12_count_146 (by decide) ?_
    refine wp_istore_n (pc := 147) (lv' := [_, _, _, _]) dX12_count_147 rfl (Nat.le_of_ble_eq_true rfl) rfl rfl ?_
    refine wp_iconst (pc := 148) (v := 0) dX12_count_148 (by decide) ?_
    refine wp_istore_n (pc := 149) (lv' := [_, _, _, _]) dX12_count_149 rfl (Nat.le_of_ble_eq_true rfl) rfl rfl ?_
    subst c1
    have loop : ∀ i, i ≤ N → ∀ h, InM x am (M) h → Fr x am h0 h → wp l G mX12_count (zM G mX12_count Q0) 150 [some (.ref x), some (.int 14), some (.int (clsN M i)), some (.int (nI i))] [] h 0 0 := by
      refine loopU _ N (fun i hi ih => ?_) ?_
      · intro h hM hF
        refine wp_iload_n (pc := 150) dX12_count_150 rfl rfl ?_
        refine wp_aload_n (pc := 151) dX12_count_151 rfl rfl ?_
        refine wp_get (pc := 152) dX12_count_152 fl_X12_167_13 hM.1 rfl ?_
        refine wp_icmp_ge (pc := 155) (tgt := 180) dX12_count_155 (by decide) (fun z => absurd z (by rw [hT]; exact nI_ge hi (by omega))) (fun _ => ?_)
        refine wp_iload_n (pc := 158) dX12_count_158 rfl rfl ?_
        refine wp_aload_n (pc := 159) dX12_count_159 rfl rfl ?_
        refine wp_iload_n (pc := 160) dX12_count_160 rfl rfl ?_
        refine mp_call (pc := 161) [_] dX12_count_161 rfl cv_X12_318_13 rfl ⟨(Nat.le_of_ble_eq_true rfl), (Nat.le_of_ble_eq_true rfl)⟩ (Nat.le_of_ble_eq_true rfl) ⟨rfl, rfl⟩ (ms_clashes l G x am _ _ (by exact hW) hW2 (by omega)) hM hF (fun h hM hF => ?_)
        refine wp_ifB_eq (pc := 164) (tgt := 171) dX12_count_164 (by decide) (fun c164 => ?_) (fun c164 => ?_)
        · skip
          refine wp_iconst (pc := 171) (v := 0) dX12_count_171 (by decide) ?_
          refine wp_iadd (pc := 172) dX12_count_172 ?_
          refine wp_istore_n (pc := 173) (lv' := [_, _, _, _]) dX12_count_173 rfl (Nat.le_of_ble_eq_true rfl) rfl rfl ?_
          refine wp_iinc (pc := 174) (v := _ + 1) (lv' := [_, _, _, _]) dX12_count_174 rfl rfl rfl rfl ?_
          refine wp_goto (pc := 177) (tgt := 150) dX12_count_177 (by decide) ?_
          exact wp_lv (ih h hM hF) (by simp [clsN, bi, nI_1, c164])
        · skip
          refine wp_iconst (pc := 167) (v := 1) dX12_count_167 (by decide) ?_
          refine wp_goto (pc := 168) (tgt := 172) dX12_count_168 (by decide) ?_
          refine wp_iadd (pc := 172) dX12_count_172 ?_
          refine wp_istore_n (pc := 173) (lv' := [_, _, _, _]) dX12_count_173 rfl (Nat.le_of_ble_eq_true rfl) rfl rfl ?_
          refine wp_iinc (pc := 174) (v := _ + 1) (lv' := [_, _, _, _]) dX12_count_174 rfl rfl rfl rfl ?_
          refine wp_goto (pc := 177) (tgt := 150) dX12_count_177 (by decide) ?_
          exact wp_lv (ih h hM hF) (by simp [clsN, bi, nI_1, c164])
      · intro h hM hF
        refine wp_iload_n (pc := 150) dX12_count_150 rfl rfl ?_
        refine wp_aload_n (pc := 151) dX12_count_151 rfl rfl ?_
        refine wp_get (pc := 152) dX12_count_152 fl_X12_167_13 hM.1 rfl ?_
        refine wp_icmp_ge (pc := 155) (tgt := 180) dX12_count_155 (by decide) (fun _ => ?_) (fun z => absurd (by rw [hT]; exact nI_le (Nat.le_refl _) (by omega)) z)
        refine wp_iload_n (pc := 180) dX12_count_180 rfl rfl ?_
        exact wp_iret (pc := 181) dX12_count_181 rfl (by rw [← hQ0]; exact ⟨by simp only [f_count, hTx, if_true, if_false, Bool.true_eq_false, Bool.false_eq_true, reduceIte, reduceCtorEq, Bool.not_true, Bool.not_false, true_and, and_true, and_false, false_and, or_true, true_or, or_false, false_or, not_true_eq_false, not_false_eq_true] <;> rfl, hM, hF⟩)
    exact loop 0 (Nat.zero_le _) h hM hF
  · skip
    refine wp_bipush (pc := 182) (v := (-2)) dX12_count_182 (by decide) ?_
    exact wp_iret (pc := 184) dX12_count_184 rfl (by rw [← hQ0]; exact ⟨by rw [f_count, if_neg (sw_ne c1 (by decide)), if_neg (sw_ne c1 (by decide)), if_neg (sw_ne c1 (by decide)), if_neg (sw_ne c1 (by decide)), if_neg (sw_ne c1 (by decide)), if_neg (sw_ne c1 (by decide)), if_neg (sw_ne c1 (by decide)), if_neg (sw_ne c1 (by decide)), if_neg (sw_ne c1 (by decide)), if_neg (sw_ne c1 (by decide)), if_neg (sw_ne c1 (by decide)), if_neg (sw_ne c1 (by decide)), if_neg (sw_ne c1 (by decide)), if_neg (sw_ne c1 (by decide)), if_neg (sw_ne c1 (by decide))], hM, hF⟩)
theorem putR_1 (M : MS) (y : Nat) (what n : Int32) : ∀ i, (putR M y what n i).1 = M.1 ∧ (putR M y what n i).2.1 = (putB M y what n).2.1
  | 0 => ⟨rfl, rfl⟩
  | i + 1 => putR_1 M y what n i
theorem putOk_t {M : MS} {what n : Int32} (h : putOk M what n = true) (h3 : what = 3 ∨ what = 4) : isIx n (nx (M.1 11)) = true := by
  rcases h3 with rfl | rfl
  · simpa [putOk] using h
  · simpa [putOk] using h
theorem ms_put (tr what n : Int32) {W : Nat} (hW : M.1 6 = nI W) (hW2 : W ≤ 20) {N : Nat} (hT : M.1 11 = nI N) (hT2 : N ≤ 20) {L : Nat} (hL : M.1 35 = nI L) (hL4 : L ≤ 400) (hTg : ∀ t, t < N → ∃ g : Nat, M.2.1 21 t = nI g ∧ g ≤ 20) : MSp l G x am mX12_put [.int tr, .int what, .int n] M (some (.int (f_put M tr what n).1)) ((f_put M tr what n).2) := by
  refine MSp.intro (lv := [_, _, _, _, _, _]) (by decide) rfl (Nat.le_of_ble_eq_true rfl) (fun h0 h hM hF => ?_)
  generalize hQ0 : (fun (w9 : Option Value) (h' : Hp) => w9 = (some (.int (f_put M tr what n).1)) ∧ InM x am ((f_put M tr what n).2) h' ∧ Fr x am h0 h') = Q0
  have hWx : nx (M.1 6) = W := by rw [hW]; exact nx_nI (by omega)
  have hTx : nx (M.1 11) = N := by rw [hT]; exact nx_nI (by omega)
  have hLx : nx (M.1 35) = L := by rw [hL]; exact nx_nI (by omega)
  have k45 : ∀ h, InM x am M h → Fr x am h0 h → wp l G mX12_put (zM G mX12_put Q0) 45 [some (.ref x), some (.int tr), some (.int what), some (.int n), none, none] [.int (bi (putOk M what n))] h 0 0 := by
    intro h hM hF
    refine wp_istore (pc := 45) (lv' := [_, _, _, _, _, _]) dX12_put_45 (Nat.le_of_ble_eq_true rfl) rfl rfl ?_
    refine wp_iload_n (pc := 47) dX12_put_47 rfl rfl ?_
    refine wp_iconst (pc := 48) (v := 0) dX12_put_48 (by decide) ?_
    refine wp_iconst (pc := 49) (v := 5) dX12_put_49 (by decide) ?_
    refine mp_callS (pc := 50) [_, _, _] dX12_put_50 rfl cs_X12_153 rfl ⟨(Nat.le_of_ble_eq_true rfl), (Nat.le_of_ble_eq_true rfl)⟩ (Nat.le_of_ble_eq_true rfl) ⟨rfl, rfl⟩ (ms_in l G _ _ _ h) ?_
    refine wp_ifB_eq (pc := 53) (tgt := 61) dX12_put_53 (by decide) (fun c53 => ?_) (fun c53 => ?_)
    · skip
      refine wp_aload_n (pc := 61) dX12_put_61 rfl rfl ?_
      refine wp_iconst (pc := 62) (v := 1) dX12_put_62 (by decide) ?_
      refine mp_call (pc := 63) [_] dX12_put_63 rfl cv_X12_324_13 rfl ⟨(Nat.le_of_ble_eq_true rfl), (Nat.le_of_ble_eq_true rfl)⟩ (Nat.le_of_ble_eq_true rfl) ⟨rfl, rfl⟩ (ms_refuse l G x am _ _) hM hF (fun h hM hF => ?_)
      exact wp_iret (pc := 66) dX12_put_66 rfl (by rw [← hQ0]; exact ⟨by simp only [f_put, c53, if_true, if_false, Bool.true_eq_false, Bool.false_eq_true, reduceIte, reduceCtorEq, Bool.not_true, Bool.not_false, true_and, and_true, and_false, false_and, or_true, true_or, or_false, false_or, not_true_eq_false, not_false_eq_true], by simp only [f_put, c53, if_true, if_false, Bool.true_eq_false, Bool.false_eq_true, reduceIte, reduceCtorEq, Bool.not_true, Bool.not_false, true_and, and_true, and_false, false_and, or_true, true_or, or_false, false_or, not_true_eq_false, not_false_eq_true] <;> exact hM, hF⟩)
    · obtain ⟨j, hj, rfl⟩ := fin_ix5 c53
      have e1 : nx (nI j) = j := nx_nI (by omega)
      have k117 : ∀ (z : Nat), z ≤ 20 → (putB M j what n).2.1 56 j = nI z → (what = 3 → ∃ t, t < N ∧ n = nI t) → (¬ what = 3 → ∀ i, i < z → i < W ∧ ∃ t, t < N ∧ n = nI t) → InM x am (sS (putR M j what n z) 58 0) = InM x am (f_put M (nI j) what n).2 → (f_put M (nI j) what n).1 = 1 → ∀ h, InM x am (putB M j what n) h → Fr x am h0 h → wp l G mX12_put (zM G mX12_put Q0) 117 [some (.ref x), some (.int (nI j)), some (.int what), some (.int n), none, some (.int (nI 0))] [] h 0 0 := by
        intro z hz20 hz h3 h4 hres hr1 h hM0 hF0
        have loop : ∀ i, i ≤ z → ∀ h, InM x am (putR M j what n i) h → Fr x am h0 h → wp l G mX12_put (zM G mX12_put Q0) 117 [some (.ref x), some (.int (nI j)), some (.int what), some (.int n), none, some (.int (nI i))] [] h 0 0 := by
          refine loopU _ z (fun i hi ih => ?_) ?_
          · intro h hM hF
            have hS := (putR_1 M j what n i).2
            have hR : putR M j what n (i + 1) = sL (putR M j what n i) 57 (20 * j + i) (if what = 3 then (putR M j what n i).2.2 25 (20 * nx n + i) else if mayB (putR M j what n i) i (nx n) = false then 0 else 1) := rfl
            rw [hR] at ih
            generalize putR M j what n i = R at hM hS ih
            refine wp_iload (pc := 117) dX12_put_117 rfl ?_
            refine wp_aload_n (pc := 119) dX12_put_119 rfl rfl ?_
            refine wp_get (pc := 120) dX12_put_120 fl_X12_142_13 hM.1 rfl ?_
            refine wp_iload_n (pc := 123) dX12_put_123 rfl rfl ?_
            refine wp_iald (pc := 124) (i := j) dX12_put_124 (hM.i 56 rfl) ⟨rfl, by omega, by decide⟩ ?_
            rw [hS, hz]
            refine wp_icmp_ge (pc := 125) (tgt := 181) dX12_put_125 (by decide) (fun z => absurd z (nI_ge hi (by omega))) (fun _ => ?_)
            refine wp_aload_n (pc := 128) dX12_put_128 rfl rfl ?_
            refine wp_get (pc := 129) dX12_put_129 fl_X12_145_13 hM.1 rfl ?_
            refine wp_bipush (pc := 132) (v := 20) dX12_put_132 (by decide) ?_
            refine wp_iload_n (pc := 134) dX12_put_134 rfl rfl ?_
            refine wp_imul (pc := 135) dX12_put_135 ?_
            refine wp_iload (pc := 136) dX12_put_136 rfl ?_
            refine wp_iadd (pc := 138) dX12_put_138 ?_
            refine wp_iload_n (pc := 139) dX12_put_139 rfl rfl ?_
            refine wp_iconst (pc := 140) (v := 3) dX12_put_140 (by decide) ?_
            refine wp_icmp_ne (pc := 141) (tgt := 159) dX12_put_141 (by decide) (fun c141 => ?_) (fun c141 => ?_)
            · obtain ⟨hiW, t, ht, rfl⟩ := h4 c141 i hi
              have e9 : nx (nI t) = t := nx_nI (by omega)
              rw [e9] at ih
              refine wp_aload_n (pc := 159) dX12_put_159 rfl rfl ?_
              refine wp_iload (pc := 160) dX12_put_160 rfl ?_
              refine wp_iload_n (pc := 162) dX12_put_162 rfl rfl ?_
              refine mp_call (pc := 163) [_, _] dX12_put_163 rfl cv_X12_303_13 rfl ⟨(Nat.le_of_ble_eq_true rfl), (Nat.le_of_ble_eq_true rfl)⟩ (Nat.le_of_ble_eq_true rfl) ⟨rfl, rfl⟩ (ms_may l G x am _ _ _ (by omega) (by omega)) hM hF (fun h hM hF => ?_)
              refine wp_ifB_eq (pc := 166) (tgt := 173) dX12_put_166 (by decide) (fun c166 => ?_) (fun c166 => ?_)
              · skip
                refine wp_lconst (pc := 173) (v := 0) dX12_put_173 (by decide) ?_
                refine mp_last (pc := 174) (k := 57) (i := ((20 * j) + i)) dX12_put_174 hM hF rfl ⟨by simp only [nl1, nl5, nl8, nl20, pk_mul, nI_add], by omega, by decide⟩ (fun h hM hF => ?_)
                refine wp_iinc (pc := 175) (v := _ + 1) (lv' := [_, _, _, _, _, _]) dX12_put_175 rfl rfl rfl rfl ?_
                refine wp_goto (pc := 178) (tgt := 117) dX12_put_178 (by decide) ?_
                simp only [eq_false c141, c166, if_true, if_false, Bool.true_eq_false, Bool.false_eq_true, reduceIte, reduceCtorEq, Bool.not_true, Bool.not_false, true_and, and_true, and_false, false_and, or_true, true_or, or_false, false_or, not_true_eq_false, not_false_eq_true] at ih
                exact wp_lv (ih h hM hF) (by simp [nI_1])
              · skip
                refine wp_lconst (pc := 169) (v := 1) dX12_put_169 (by decide) ?_
                refine wp_goto (pc := 170) (tgt := 174) dX12_put_170 (by decide) ?_
                refine mp_last (pc := 174) (k := 57) (i := ((20 * j) + i)) dX12_put_174 hM hF rfl ⟨by simp only [nl1, nl5, nl8, nl20, pk_mul, nI_add], by omega, by decide⟩ (fun h hM hF => ?_)
                refine wp_iinc (pc := 175) (v := _ + 1) (lv' := [_, _, _, _, _, _]) dX12_put_175 rfl rfl rfl rfl ?_
                refine wp_goto (pc := 178) (tgt := 117) dX12_put_178 (by decide) ?_
                simp only [eq_false c141, c166, if_true, if_false, Bool.true_eq_false, Bool.false_eq_true, reduceIte, reduceCtorEq, Bool.not_true, Bool.not_false, true_and, and_true, and_false, false_and, or_true, true_or, or_false, false_or, not_true_eq_false, not_false_eq_true] at ih
                exact wp_lv (ih h hM hF) (by simp [nI_1])
            · obtain ⟨t, ht, rfl⟩ := h3 c141
              have e9 : nx (nI t) = t := nx_nI (by omega)
              rw [e9] at ih
              refine wp_aload_n (pc := 144) dX12_put_144 rfl rfl ?_
              refine wp_get (pc := 145) dX12_put_145 fl_X12_72_13 hM.1 rfl ?_
              refine wp_bipush (pc := 148) (v := 20) dX12_put_148 (by decide) ?_
              refine wp_iload_n (pc := 150) dX12_put_150 rfl rfl ?_
              refine wp_imul (pc := 151) dX12_put_151 ?_
              refine wp_iload (pc := 152) dX12_put_152 rfl ?_
              refine wp_iadd (pc := 154) dX12_put_154 ?_
              refine wp_lald (pc := 155) (i := ((20 * t) + i)) dX12_put_155 (hM.j 25 rfl) ⟨by simp only [nl1, nl5, nl8, nl20, pk_mul, nI_add], by omega, by decide⟩ ?_
              refine wp_goto (pc := 156) (tgt := 174) dX12_put_156 (by decide) ?_
              refine mp_last (pc := 174) (k := 57) (i := ((20 * j) + i)) dX12_put_174 hM hF rfl ⟨by simp only [nl1, nl5, nl8, nl20, pk_mul, nI_add], by omega, by decide⟩ (fun h hM hF => ?_)
              refine wp_iinc (pc := 175) (v := _ + 1) (lv' := [_, _, _, _, _, _]) dX12_put_175 rfl rfl rfl rfl ?_
              refine wp_goto (pc := 178) (tgt := 117) dX12_put_178 (by decide) ?_
              simp only [eq_true c141, if_true, if_false, Bool.true_eq_false, Bool.false_eq_true, reduceIte, reduceCtorEq, Bool.not_true, Bool.not_false, true_and, and_true, and_false, false_and, or_true, true_or, or_false, false_or, not_true_eq_false, not_false_eq_true] at ih
              exact wp_lv (ih h hM hF) (by simp [nI_1])
          · intro h hM hF
            have hS := (putR_1 M j what n z).2
            refine wp_iload (pc := 117) dX12_put_117 rfl ?_
            refine wp_aload_n (pc := 119) dX12_put_119 rfl rfl ?_
            refine wp_get (pc := 120) dX12_put_120 fl_X12_142_13 hM.1 rfl ?_
            refine wp_iload_n (pc := 123) dX12_put_123 rfl rfl ?_
            refine wp_iald (pc := 124) (i := j) dX12_put_124 (hM.i 56 rfl) ⟨rfl, by omega, by decide⟩ ?_
            rw [hS, hz]
            refine wp_icmp_ge (pc := 125) (tgt := 181) dX12_put_125 (by decide) (fun _ => ?_) (fun z => absurd (nI_le (Nat.le_refl _) (by omega)) z)
            refine wp_aload_n (pc := 181) dX12_put_181 rfl rfl ?_
            refine wp_iconst (pc := 182) (v := 1) dX12_put_182 (by decide) ?_
            refine mp_call (pc := 183) [_] dX12_put_183 rfl cv_X12_327_13 rfl ⟨(Nat.le_of_ble_eq_true rfl), (Nat.le_of_ble_eq_true rfl)⟩ (Nat.le_of_ble_eq_true rfl) ⟨rfl, rfl⟩ (ms_done l G x am _ _) hM hF (fun h hM hF => ?_)
            exact wp_iret (pc := 186) dX12_put_186 rfl (by rw [← hQ0]; exact ⟨by rw [hr1], by rw [← hres]; exact hM, hF⟩)
        exact loop 0 (Nat.zero_le _) h hM0 hF0
      refine wp_iload (pc := 56) dX12_put_56 rfl ?_
      refine wp_ifB_ne (pc := 58) (tgt := 67) dX12_put_58 (by decide) (fun c58 => ?_) (fun c58 => ?_)
      · skip
        refine wp_aload_n (pc := 67) dX12_put_67 rfl rfl ?_
        refine wp_get (pc := 68) dX12_put_68 fl_X12_136_13 hM.1 rfl ?_
        refine wp_iload_n (pc := 71) dX12_put_71 rfl rfl ?_
        refine wp_iload_n (pc := 72) dX12_put_72 rfl rfl ?_
        refine mp_iast (pc := 73) (k := 54) (i := j) dX12_put_73 hM hF rfl ⟨rfl, by omega, by decide⟩ (fun h hM hF => ?_)
        refine wp_aload_n (pc := 74) dX12_put_74 rfl rfl ?_
        refine wp_get (pc := 75) dX12_put_75 fl_X12_139_13 hM.1 rfl ?_
        refine wp_iload_n (pc := 78) dX12_put_78 rfl rfl ?_
        refine wp_iload_n (pc := 79) dX12_put_79 rfl rfl ?_
        refine mp_iast (pc := 80) (k := 55) (i := j) dX12_put_80 hM hF rfl ⟨rfl, by omega, by decide⟩ (fun h hM hF => ?_)
        refine wp_aload_n (pc := 81) dX12_put_81 rfl rfl ?_
        refine wp_get (pc := 82) dX12_put_82 fl_X12_142_13 hM.1 rfl ?_
        refine wp_iload_n (pc := 85) dX12_put_85 rfl rfl ?_
        refine wp_iload_n (pc := 86) dX12_put_86 rfl rfl ?_
        refine wp_iconst (pc := 87) (v := 3) dX12_put_87 (by decide) ?_
        refine wp_icmp_ne (pc := 88) (tgt := 100) dX12_put_88 (by decide) (fun c88 => ?_) (fun c88 => ?_)
        · skip
          refine wp_iload_n (pc := 100) dX12_put_100 rfl rfl ?_
          refine wp_iconst (pc := 101) (v := 4) dX12_put_101 (by decide) ?_
          refine wp_icmp_ne (pc := 102) (tgt := 112) dX12_put_102 (by decide) (fun c102 => ?_) (fun c102 => ?_)
          · skip
            refine wp_iconst (pc := 112) (v := 0) dX12_put_112 (by decide) ?_
            refine mp_iast (pc := 113) (k := 56) (i := j) dX12_put_113 hM hF rfl ⟨rfl, by omega, by decide⟩ (fun h hM hF => ?_)
            refine wp_iconst (pc := 114) (v := 0) dX12_put_114 (by decide) ?_
            refine wp_istore (pc := 115) (lv' := [_, _, _, _, _, _]) dX12_put_115 (Nat.le_of_ble_eq_true rfl) rfl rfl ?_
            have hM : InM x am (putB M j what n) h := by simp only [putB, eq_false c88, eq_false c102, if_true, if_false, Bool.true_eq_false, Bool.false_eq_true, reduceIte, reduceCtorEq, Bool.not_true, Bool.not_false, true_and, and_true, and_false, false_and, or_true, true_or, or_false, false_or, not_true_eq_false, not_false_eq_true] <;> exact hM
            refine wp_drop (k117 0 ?_ ?_ ?_ ?_ ?_ ?_ h hM hF) (by simp [lvle, nI_0])
            · omega
            · simp only [putB, sI, fu, eq_false c88, eq_false c102, reduceIte] <;> rfl
            · exact fun z => absurd z c88
            · exact fun _ i hi => absurd hi (Nat.not_lt_zero i)
            · simp only [f_put, e1, c53, c58, eq_false c88, eq_false c102, if_true, if_false, Bool.true_eq_false, Bool.false_eq_true, reduceIte, reduceCtorEq, Bool.not_true, Bool.not_false, true_and, and_true, and_false, false_and, or_true, true_or, or_false, false_or, not_true_eq_false, not_false_eq_true] <;> rfl
            · simp only [f_put, e1, c53, c58, if_true, if_false, Bool.true_eq_false, Bool.false_eq_true, reduceIte, reduceCtorEq, Bool.not_true, Bool.not_false, true_and, and_true, and_false, false_and, or_true, true_or, or_false, false_or, not_true_eq_false, not_false_eq_true]
          · obtain ⟨t, ht, rfl⟩ := isIx_t (putOk_t c58 (Or.inr c102)) (by omega)
            rw [hTx] at ht
            have e9 : nx (nI t) = t := nx_nI (by omega)
            refine wp_aload_n (pc := 105) dX12_put_105 rfl rfl ?_
            refine wp_get (pc := 106) dX12_put_106 fl_X12_164_13 hM.1 rfl ?_
            refine wp_goto (pc := 109) (tgt := 113) dX12_put_109 (by decide) ?_
            refine mp_iast (pc := 113) (k := 56) (i := j) dX12_put_113 hM hF rfl ⟨rfl, by omega, by decide⟩ (fun h hM hF => ?_)
            refine wp_iconst (pc := 114) (v := 0) dX12_put_114 (by decide) ?_
            refine wp_istore (pc := 115) (lv' := [_, _, _, _, _, _]) dX12_put_115 (Nat.le_of_ble_eq_true rfl) rfl rfl ?_
            have hM : InM x am (putB M j what (nI t)) h := by simp only [putB, eq_false c88, eq_true c102, if_true, if_false, Bool.true_eq_false, Bool.false_eq_true, reduceIte, reduceCtorEq, Bool.not_true, Bool.not_false, true_and, and_true, and_false, false_and, or_true, true_or, or_false, false_or, not_true_eq_false, not_false_eq_true] <;> exact hM
            refine wp_drop (k117 W ?_ ?_ ?_ ?_ ?_ ?_ h hM hF) (by simp [lvle, nI_0])
            · omega
            · simp only [putB, sI, fu, eq_false c88, eq_true c102, reduceIte]; exact hW
            · exact fun z => absurd z c88
            · exact fun _ i hi => ⟨hi, t, ht, rfl⟩
            · simp only [f_put, e1, hWx, c53, c58, eq_false c88, eq_true c102, if_true, if_false, Bool.true_eq_false, Bool.false_eq_true, reduceIte, reduceCtorEq, Bool.not_true, Bool.not_false, true_and, and_true, and_false, false_and, or_true, true_or, or_false, false_or, not_true_eq_false, not_false_eq_true] <;> rfl
            · simp only [f_put, e1, c53, c58, if_true, if_false, Bool.true_eq_false, Bool.false_eq_true, reduceIte, reduceCtorEq, Bool.not_true, Bool.not_false, true_and, and_true, and_false, false_and, or_true, true_or, or_false, false_or, not_true_eq_false, not_false_eq_true]
        · obtain ⟨t, ht, rfl⟩ := isIx_t (putOk_t c58 (Or.inl c88)) (by omega)
          rw [hTx] at ht
          have e9 : nx (nI t) = t := nx_nI (by omega)
          obtain ⟨g, hg, hg2⟩ := hTg t ht
          have hgx : nx (M.2.1 21 t) = g := by rw [hg]; exact nx_nI (by omega)
          refine wp_aload_n (pc := 91) dX12_put_91 rfl rfl ?_
          refine wp_get (pc := 92) dX12_put_92 fl_X12_60_13 hM.1 rfl ?_
          refine wp_iload_n (pc := 95) dX12_put_95 rfl rfl ?_
          refine wp_iald (pc := 96) (i := t) dX12_put_96 (hM.i 21 rfl) ⟨rfl, by omega, by decide⟩ ?_
          refine wp_goto (pc := 97) (tgt := 113) dX12_put_97 (by decide) ?_
          refine mp_iast (pc := 113) (k := 56) (i := j) dX12_put_113 hM hF rfl ⟨rfl, by omega, by decide⟩ (fun h hM hF => ?_)
          refine wp_iconst (pc := 114) (v := 0) dX12_put_114 (by decide) ?_
          refine wp_istore (pc := 115) (lv' := [_, _, _, _, _, _]) dX12_put_115 (Nat.le_of_ble_eq_true rfl) rfl rfl ?_
          have hM : InM x am (putB M j what (nI t)) h := by simp only [putB, eq_true c88, if_true, if_false, Bool.true_eq_false, Bool.false_eq_true, reduceIte, reduceCtorEq, Bool.not_true, Bool.not_false, true_and, and_true, and_false, false_and, or_true, true_or, or_false, false_or, not_true_eq_false, not_false_eq_true, e9] <;> exact hM
          refine wp_drop (k117 g ?_ ?_ ?_ ?_ ?_ ?_ h hM hF) (by simp [lvle, nI_0])
          · exact hg2
          · simp only [putB, sI, fu, eq_true c88, reduceIte, e9]; exact hg
          · exact fun _ => ⟨t, ht, rfl⟩
          · exact fun z => absurd c88 z
          · simp only [f_put, e1, e9, hgx, c53, c58, eq_true c88, if_true, if_false, Bool.true_eq_false, Bool.false_eq_true, reduceIte, reduceCtorEq, Bool.not_true, Bool.not_false, true_and, and_true, and_false, false_and, or_true, true_or, or_false, false_or, not_true_eq_false, not_false_eq_true]
          · simp only [f_put, e1, c53, c58, if_true, if_false, Bool.true_eq_false, Bool.false_eq_true, reduceIte, reduceCtorEq, Bool.not_true, Bool.not_false, true_and, and_true, and_false, false_and, or_true, true_or, or_false, false_or, not_true_eq_false, not_false_eq_true]
      · skip
        refine wp_aload_n (pc := 61) dX12_put_61 rfl rfl ?_
        refine wp_iconst (pc := 62) (v := 1) dX12_put_62 (by decide) ?_
        refine mp_call (pc := 63) [_] dX12_put_63 rfl cv_X12_324_13 rfl ⟨(Nat.le_of_ble_eq_true rfl), (Nat.le_of_ble_eq_true rfl)⟩ (Nat.le_of_ble_eq_true rfl) ⟨rfl, rfl⟩ (ms_refuse l G x am _ _) hM hF (fun h hM hF => ?_)
        exact wp_iret (pc := 66) dX12_put_66 rfl (by rw [← hQ0]; exact ⟨by simp only [f_put, c53, c58, if_true, if_false, Bool.true_eq_false, Bool.false_eq_true, reduceIte, reduceCtorEq, Bool.not_true, Bool.not_false, true_and, and_true, and_false, false_and, or_true, true_or, or_false, false_or, not_true_eq_false, not_false_eq_true], by simp only [f_put, c53, c58, if_true, if_false, Bool.true_eq_false, Bool.false_eq_true, reduceIte, reduceCtorEq, Bool.not_true, Bool.not_false, true_and, and_true, and_false, false_and, or_true, true_or, or_false, false_or, not_true_eq_false, not_false_eq_true] <;> exact hM, hF⟩)
  refine wp_iload_n (pc := 0) dX12_put_0 rfl rfl ?_
  refine wp_if_eq (pc := 1) (tgt := 40) dX12_put_1 (by decide) (fun c1 => ?_) (fun c1 => ?_)
  · skip
    refine wp_iconst (pc := 40) (v := 1) dX12_put_40 (by decide) ?_
    refine wp_goto (pc := 41) (tgt := 45) dX12_put_41 (by decide) ?_
    have e : putOk M what n = true := by first | (simp only [putOk, hTx, hLx, eq_true c1, if_true, if_false, Bool.true_eq_false, Bool.false_eq_true, reduceIte, reduceCtorEq, Bool.not_true, Bool.not_false, true_and, and_true, and_false, false_and, or_true, true_or, or_false, false_or, not_true_eq_false, not_false_eq_true]; done) | (subst_vars; simp only [putOk, hTx, hLx, reduceIte, if_true, if_false, Bool.true_eq_false, Bool.false_eq_true, reduceIte, reduceCtorEq, Bool.not_true, Bool.not_false, true_and, and_true, and_false, false_and, or_true, true_or, or_false, false_or, not_true_eq_false, not_false_eq_true]; done) | (subst_vars; simp_all [putOk])
    rw [e] at k45
    exact wp_drop (k45 h hM hF) (by simp [lvle])
  · skip
    refine wp_iload_n (pc := 4) dX12_put_4 rfl rfl ?_
    refine wp_iconst (pc := 5) (v := 2) dX12_put_5 (by decide) ?_
    refine wp_icmp_ne (pc := 6) (tgt := 17) dX12_put_6 (by decide) (fun c6 => ?_) (fun c6 => ?_)
    · skip
      refine wp_iload_n (pc := 17) dX12_put_17 rfl rfl ?_
      refine wp_iconst (pc := 18) (v := 1) dX12_put_18 (by decide) ?_
      refine wp_icmp_eq (pc := 19) (tgt := 32) dX12_put_19 (by decide) (fun c19 => ?_) (fun c19 => ?_)
      · skip
        refine wp_aload_n (pc := 32) dX12_put_32 rfl rfl ?_
        refine wp_iload_n (pc := 33) dX12_put_33 rfl rfl ?_
        refine mp_call (pc := 34) [_] dX12_put_34 rfl cv_X12_214_13 rfl ⟨(Nat.le_of_ble_eq_true rfl), (Nat.le_of_ble_eq_true rfl)⟩ (Nat.le_of_ble_eq_true rfl) ⟨rfl, rfl⟩ (ms_isThing l G x am _ _ (by exact hT) hT2) hM hF (fun h hM hF => ?_)
        refine wp_ifB_eq (pc := 37) (tgt := 44) dX12_put_37 (by decide) (fun c37 => ?_) (fun c37 => ?_)
        · skip
          refine wp_iconst (pc := 44) (v := 0) dX12_put_44 (by decide) ?_
          have e : putOk M what n = false := by first | (simp only [putOk, hTx, hLx, eq_false c1, eq_false c6, eq_true c19, c37, if_true, if_false, Bool.true_eq_false, Bool.false_eq_true, reduceIte, reduceCtorEq, Bool.not_true, Bool.not_false, true_and, and_true, and_false, false_and, or_true, true_or, or_false, false_or, not_true_eq_false, not_false_eq_true]; done) | (subst_vars; simp only [putOk, hTx, hLx, reduceIte, eq_false c1, eq_false c6, eq_true c19, c37, if_true, if_false, Bool.true_eq_false, Bool.false_eq_true, reduceIte, reduceCtorEq, Bool.not_true, Bool.not_false, true_and, and_true, and_false, false_and, or_true, true_or, or_false, false_or, not_true_eq_false, not_false_eq_true]; done) | (subst_vars; simp_all [putOk])
          rw [e] at k45
          exact wp_drop (k45 h hM hF) (by simp [lvle])
        · skip
          refine wp_iconst (pc := 40) (v := 1) dX12_put_40 (by decide) ?_
          refine wp_goto (pc := 41) (tgt := 45) dX12_put_41 (by decide) ?_
          have e : putOk M what n = true := by first | (simp only [putOk, hTx, hLx, eq_false c1, eq_false c6, eq_true c19, c37, if_true, if_false, Bool.true_eq_false, Bool.false_eq_true, reduceIte, reduceCtorEq, Bool.not_true, Bool.not_false, true_and, and_true, and_false, false_and, or_true, true_or, or_false, false_or, not_true_eq_false, not_false_eq_true]; done) | (subst_vars; simp only [putOk, hTx, hLx, reduceIte, eq_false c1, eq_false c6, eq_true c19, c37, if_true, if_false, Bool.true_eq_false, Bool.false_eq_true, reduceIte, reduceCtorEq, Bool.not_true, Bool.not_false, true_and, and_true, and_false, false_and, or_true, true_or, or_false, false_or, not_true_eq_false, not_false_eq_true]; done) | (subst_vars; simp_all [putOk])
          rw [e] at k45
          exact wp_drop (k45 h hM hF) (by simp [lvle])
      · skip
        refine wp_iload_n (pc := 22) dX12_put_22 rfl rfl ?_
        refine wp_iconst (pc := 23) (v := 3) dX12_put_23 (by decide) ?_
        refine wp_icmp_eq (pc := 24) (tgt := 32) dX12_put_24 (by decide) (fun c24 => ?_) (fun c24 => ?_)
        · skip
          refine wp_aload_n (pc := 32) dX12_put_32 rfl rfl ?_
          refine wp_iload_n (pc := 33) dX12_put_33 rfl rfl ?_
          refine mp_call (pc := 34) [_] dX12_put_34 rfl cv_X12_214_13 rfl ⟨(Nat.le_of_ble_eq_true rfl), (Nat.le_of_ble_eq_true rfl)⟩ (Nat.le_of_ble_eq_true rfl) ⟨rfl, rfl⟩ (ms_isThing l G x am _ _ (by exact hT) hT2) hM hF (fun h hM hF => ?_)
          refine wp_ifB_eq (pc := 37) (tgt := 44) dX12_put_37 (by decide) (fun c37 => ?_) (fun c37 => ?_)
          · skip
            refine wp_iconst (pc := 44) (v := 0) dX12_put_44 (by decide) ?_
            have e : putOk M what n = false := by first | (simp only [putOk, hTx, hLx, eq_false c1, eq_false c6, eq_false c19, eq_true c24, c37, if_true, if_false, Bool.true_eq_false, Bool.false_eq_true, reduceIte, reduceCtorEq, Bool.not_true, Bool.not_false, true_and, and_true, and_false, false_and, or_true, true_or, or_false, false_or, not_true_eq_false, not_false_eq_true]; done) | (subst_vars; simp only [putOk, hTx, hLx, reduceIte, eq_false c1, eq_false c6, eq_false c19, eq_true c24, c37, if_true, if_false, Bool.true_eq_false, Bool.false_eq_true, reduceIte, reduceCtorEq, Bool.not_true, Bool.not_false, true_and, and_true, and_false, false_and, or_true, true_or, or_false, false_or, not_true_eq_false, not_false_eq_true]; done) | (subst_vars; simp_all [putOk])
            rw [e] at k45
            exact wp_drop (k45 h hM hF) (by simp [lvle])
          · skip
            refine wp_iconst (pc := 40) (v := 1) dX12_put_40 (by decide) ?_
            refine wp_goto (pc := 41) (tgt := 45) dX12_put_41 (by decide) ?_
            have e : putOk M what n = true := by first | (simp only [putOk, hTx, hLx, eq_false c1, eq_false c6, eq_false c19, eq_true c24, c37, if_true, if_false, Bool.true_eq_false, Bool.false_eq_true, reduceIte, reduceCtorEq, Bool.not_true, Bool.not_false, true_and, and_true, and_false, false_and, or_true, true_or, or_false, false_or, not_true_eq_false, not_false_eq_true]; done) | (subst_vars; simp only [putOk, hTx, hLx, reduceIte, eq_false c1, eq_false c6, eq_false c19, eq_true c24, c37, if_true, if_false, Bool.true_eq_false, Bool.false_eq_true, reduceIte, reduceCtorEq, Bool.not_true, Bool.not_false, true_and, and_true, and_false, false_and, or_true, true_or, or_false, false_or, not_true_eq_false, not_false_eq_true]; done) | (subst_vars; simp_all [putOk])
            rw [e] at k45
            exact wp_drop (k45 h hM hF) (by simp [lvle])
        · skip
          refine wp_iload_n (pc := 27) dX12_put_27 rfl rfl ?_
          refine wp_iconst (pc := 28) (v := 4) dX12_put_28 (by decide) ?_
          refine wp_icmp_ne (pc := 29) (tgt := 44) dX12_put_29 (by decide) (fun c29 => ?_) (fun c29 => ?_)
          · skip
            refine wp_iconst (pc := 44) (v := 0) dX12_put_44 (by decide) ?_
            have e : putOk M what n = false := by first | (simp only [putOk, hTx, hLx, eq_false c1, eq_false c6, eq_false c19, eq_false c24, eq_false c29, if_true, if_false, Bool.true_eq_false, Bool.false_eq_true, reduceIte, reduceCtorEq, Bool.not_true, Bool.not_false, true_and, and_true, and_false, false_and, or_true, true_or, or_false, false_or, not_true_eq_false, not_false_eq_true]; done) | (subst_vars; simp only [putOk, hTx, hLx, reduceIte, eq_false c1, eq_false c6, eq_false c19, eq_false c24, eq_false c29, if_true, if_false, Bool.true_eq_false, Bool.false_eq_true, reduceIte, reduceCtorEq, Bool.not_true, Bool.not_false, true_and, and_true, and_false, false_and, or_true, true_or, or_false, false_or, not_true_eq_false, not_false_eq_true]; done) | (subst_vars; simp_all [putOk])
            rw [e] at k45
            exact wp_drop (k45 h hM hF) (by simp [lvle])
          · skip
            refine wp_aload_n (pc := 32) dX12_put_32 rfl rfl ?_
            refine wp_iload_n (pc := 33) dX12_put_33 rfl rfl ?_
            refine mp_call (pc := 34) [_] dX12_put_34 rfl cv_X12_214_13 rfl ⟨(Nat.le_of_ble_eq_true rfl), (Nat.le_of_ble_eq_true rfl)⟩ (Nat.le_of_ble_eq_true rfl) ⟨rfl, rfl⟩ (ms_isThing l G x am _ _ (by exact hT) hT2) hM hF (fun h hM hF => ?_)
            refine wp_ifB_eq (pc := 37) (tgt := 44) dX12_put_37 (by decide) (fun c37 => ?_) (fun c37 => ?_)
            · skip
              refine wp_iconst (pc := 44) (v := 0) dX12_put_44 (by decide) ?_
              have e : putOk M what n = false := by first | (simp only [putOk, hTx, hLx, eq_false c1, eq_false c6, eq_false c19, eq_false c24, eq_true c29, c37, if_true, if_false, Bool.true_eq_false, Bool.false_eq_true, reduceIte, reduceCtorEq, Bool.not_true, Bool.not_false, true_and, and_true, and_false, false_and, or_true, true_or, or_false, false_or, not_true_eq_false, not_false_eq_true]; done) | (subst_vars; simp only [putOk, hTx, hLx, reduceIte, eq_false c1, eq_false c6, eq_false c19, eq_false c24, eq_true c29, c37, if_true, if_false, Bool.true_eq_false, Bool.false_eq_true, reduceIte, reduceCtorEq, Bool.not_true, Bool.not_false, true_and, and_true, and_false, false_and, or_true, true_or, or_false, false_or, not_true_eq_false, not_false_eq_true]; done) | (subst_vars; simp_all [putOk])
              rw [e] at k45
              exact wp_drop (k45 h hM hF) (by simp [lvle])
            · skip
              refine wp_iconst (pc := 40) (v := 1) dX12_put_40 (by decide) ?_
              refine wp_goto (pc := 41) (tgt := 45) dX12_put_41 (by decide) ?_
              have e : putOk M what n = true := by first | (simp only [putOk, hTx, hLx, eq_false c1, eq_false c6, eq_false c19, eq_false c24, eq_true c29, c37, if_true, if_false, Bool.true_eq_false, Bool.false_eq_true, reduceIte, reduceCtorEq, Bool.not_true, Bool.not_false, true_and, and_true, and_false, false_and, or_true, true_or, or_false, false_or, not_true_eq_false, not_false_eq_true]; done) | (subst_vars; simp only [putOk, hTx, hLx, reduceIte, eq_false c1, eq_false c6, eq_false c19, eq_false c24, eq_true c29, c37, if_true, if_false, Bool.true_eq_false, Bool.false_eq_true, reduceIte, reduceCtorEq, Bool.not_true, Bool.not_false, true_and, and_true, and_false, false_and, or_true, true_or, or_false, false_or, not_true_eq_false, not_false_eq_true]; done) | (subst_vars; simp_all [putOk])
              rw [e] at k45
              exact wp_drop (k45 h hM hF) (by simp [lvle])
    · skip
      refine wp_aload_n (pc := 9) dX12_put_9 rfl rfl ?_
      refine wp_iload_n (pc := 10) dX12_put_10 rfl rfl ?_
      refine mp_call (pc := 11) [_] dX12_put_11 rfl cv_X12_228_13 rfl ⟨(Nat.le_of_ble_eq_true rfl), (Nat.le_of_ble_eq_true rfl)⟩ (Nat.le_of_ble_eq_true rfl) ⟨rfl, rfl⟩ (ms_isLetter l G x am _ _ (by exact hL) hL4) hM hF (fun h hM hF => ?_)
      refine wp_ifB_ne (pc := 14) (tgt := 40) dX12_put_14 (by decide) (fun c14 => ?_) (fun c14 => ?_)
      · skip
        refine wp_iconst (pc := 40) (v := 1) dX12_put_40 (by decide) ?_
        refine wp_goto (pc := 41) (tgt := 45) dX12_put_41 (by decide) ?_
        have e : putOk M what n = true := by first | (simp only [putOk, hTx, hLx, eq_false c1, eq_true c6, c14, if_true, if_false, Bool.true_eq_false, Bool.false_eq_true, reduceIte, reduceCtorEq, Bool.not_true, Bool.not_false, true_and, and_true, and_false, false_and, or_true, true_or, or_false, false_or, not_true_eq_false, not_false_eq_true]; done) | (subst_vars; simp only [putOk, hTx, hLx, reduceIte, eq_false c1, c14, if_true, if_false, Bool.true_eq_false, Bool.false_eq_true, reduceIte, reduceCtorEq, Bool.not_true, Bool.not_false, true_and, and_true, and_false, false_and, or_true, true_or, or_false, false_or, not_true_eq_false, not_false_eq_true]; done) | (subst_vars; simp_all [putOk])
        rw [e] at k45
        exact wp_drop (k45 h hM hF) (by simp [lvle])
      · skip
        refine wp_iload_n (pc := 17) dX12_put_17 rfl rfl ?_
        refine wp_iconst (pc := 18) (v := 1) dX12_put_18 (by decide) ?_
        refine wp_icmp_eq (pc := 19) (tgt := 32) dX12_put_19 (by decide) (fun c19 => ?_) (fun c19 => ?_)
        · skip
          refine wp_aload_n (pc := 32) dX12_put_32 rfl rfl ?_
          refine wp_iload_n (pc := 33) dX12_put_33 rfl rfl ?_
          refine mp_call (pc := 34) [_] dX12_put_34 rfl cv_X12_214_13 rfl ⟨(Nat.le_of_ble_eq_true rfl), (Nat.le_of_ble_eq_true rfl)⟩ (Nat.le_of_ble_eq_true rfl) ⟨rfl, rfl⟩ (ms_isThing l G x am _ _ (by exact hT) hT2) hM hF (fun h hM hF => ?_)
          refine wp_ifB_eq (pc := 37) (tgt := 44) dX12_put_37 (by decide) (fun c37 => ?_) (fun c37 => ?_)
          · skip
            refine wp_iconst (pc := 44) (v := 0) dX12_put_44 (by decide) ?_
            have e : putOk M what n = false := by first | (simp only [putOk, hTx, hLx, eq_false c1, eq_true c6, c14, eq_true c19, c37, if_true, if_false, Bool.true_eq_false, Bool.false_eq_true, reduceIte, reduceCtorEq, Bool.not_true, Bool.not_false, true_and, and_true, and_false, false_and, or_true, true_or, or_false, false_or, not_true_eq_false, not_false_eq_true]; done) | (subst_vars; simp only [putOk, hTx, hLx, reduceIte, eq_false c1, c14, eq_true c19, c37, if_true, if_false, Bool.true_eq_false, Bool.false_eq_true, reduceIte, reduceCtorEq, Bool.not_true, Bool.not_false, true_and, and_true, and_false, false_and, or_true, true_or, or_false, false_or, not_true_eq_false, not_false_eq_true]; done) | (subst_vars; simp_all [putOk])
            rw [e] at k45
            exact wp_drop (k45 h hM hF) (by simp [lvle])
          · skip
            refine wp_iconst (pc := 40) (v := 1) dX12_put_40 (by decide) ?_
            refine wp_goto (pc := 41) (tgt := 45) dX12_put_41 (by decide) ?_
            have e : putOk M what n = true := by first | (simp only [putOk, hTx, hLx, eq_false c1, eq_true c6, c14, eq_true c19, c37, if_true, if_false, Bool.true_eq_false, Bool.false_eq_true, reduceIte, reduceCtorEq, Bool.not_true, Bool.not_false, true_and, and_true, and_false, false_and, or_true, true_or, or_false, false_or, not_true_eq_false, not_false_eq_true]; done) | (subst_vars; simp only [putOk, hTx, hLx, reduceIte, eq_false c1, c14, eq_true c19, c37, if_true, if_false, Bool.true_eq_false, Bool.false_eq_true, reduceIte, reduceCtorEq, Bool.not_true, Bool.not_false, true_and, and_true, and_false, false_and, or_true, true_or, or_false, false_or, not_true_eq_false, not_false_eq_true]; done) | (subst_vars; simp_all [putOk])
            rw [e] at k45
            exact wp_drop (k45 h hM hF) (by simp [lvle])
        · skip
          refine wp_iload_n (pc := 22) dX12_put_22 rfl rfl ?_
          refine wp_iconst (pc := 23) (v := 3) dX12_put_23 (by decide) ?_
          refine wp_icmp_eq (pc := 24) (tgt := 32) dX12_put_24 (by decide) (fun c24 => ?_) (fun c24 => ?_)
          · skip
            refine wp_aload_n (pc := 32) dX12_put_32 rfl rfl ?_
            refine wp_iload_n (pc := 33) dX12_put_33 rfl rfl ?_
            refine mp_call (pc := 34) [_] dX12_put_34 rfl cv_X12_214_13 rfl ⟨(Nat.le_of_ble_eq_true rfl), (Nat.le_of_ble_eq_true rfl)⟩ (Nat.le_of_ble_eq_true rfl) ⟨rfl, rfl⟩ (ms_isThing l G x am _ _ (by exact hT) hT2) hM hF (fun h hM hF => ?_)
            refine wp_ifB_eq (pc := 37) (tgt := 44) dX12_put_37 (by decide) (fun c37 => ?_) (fun c37 => ?_)
            · skip
              refine wp_iconst (pc := 44) (v := 0) dX12_put_44 (by decide) ?_
              have e : putOk M what n = false := by first | (simp only [putOk, hTx, hLx, eq_false c1, eq_true c6, c14, eq_false c19, eq_true c24, c37, if_true, if_false, Bool.true_eq_false, Bool.false_eq_true, reduceIte, reduceCtorEq, Bool.not_true, Bool.not_false, true_and, and_true, and_false, false_and, or_true, true_or, or_false, false_or, not_true_eq_false, not_false_eq_true]; done) | (subst_vars; simp only [putOk, hTx, hLx, reduceIte, eq_false c1, c14, eq_false c19, eq_true c24, c37, if_true, if_false, Bool.true_eq_false, Bool.false_eq_true, reduceIte, reduceCtorEq, Bool.not_true, Bool.not_false, true_and, and_true, and_false, false_and, or_true, true_or, or_false, false_or, not_true_eq_false, not_false_eq_true]; done) | (subst_vars; simp_all [putOk])
              rw [e] at k45
              exact wp_drop (k45 h hM hF) (by simp [lvle])
            · skip
              refine wp_iconst (pc := 40) (v := 1) dX12_put_40 (by decide) ?_
              refine wp_goto (pc := 41) (tgt := 45) dX12_put_41 (by decide) ?_
              have e : putOk M what n = true := by first | (simp only [putOk, hTx, hLx, eq_false c1, eq_true c6, c14, eq_false c19, eq_true c24, c37, if_true, if_false, Bool.true_eq_false, Bool.false_eq_true, reduceIte, reduceCtorEq, Bool.not_true, Bool.not_false, true_and, and_true, and_false, false_and, or_true, true_or, or_false, false_or, not_true_eq_false, not_false_eq_true]; done) | (subst_vars; simp only [putOk, hTx, hLx, reduceIte, eq_false c1, c14, eq_false c19, eq_true c24, c37, if_true, if_false, Bool.true_eq_false, Bool.false_eq_true, reduceIte, reduceCtorEq, Bool.not_true, Bool.not_false, true_and, and_true, and_false, false_and, or_true, true_or, or_false, false_or, not_true_eq_false, not_false_eq_true]; done) | (subst_vars; simp_all [putOk])
              rw [e] at k45
              exact wp_drop (k45 h hM hF) (by simp [lvle])
          · skip
            refine wp_iload_n (pc := 27) dX12_put_27 rfl rfl ?_
            refine wp_iconst (pc := 28) (v := 4) dX12_put_28 (by decide) ?_
            refine wp_icmp_ne (pc := 29) (tgt := 44) dX12_put_29 (by decide) (fun c29 => ?_) (fun c29 => ?_)
            · skip
              refine wp_iconst (pc := 44) (v := 0) dX12_put_44 (by decide) ?_
              have e : putOk M what n = false := by first | (simp only [putOk, hTx, hLx, eq_false c1, eq_true c6, c14, eq_false c19, eq_false c24, eq_false c29, if_true, if_false, Bool.true_eq_false, Bool.false_eq_true, reduceIte, reduceCtorEq, Bool.not_true, Bool.not_false, true_and, and_true, and_false, false_and, or_true, true_or, or_false, false_or, not_true_eq_false, not_false_eq_true]; done) | (subst_vars; simp only [putOk, hTx, hLx, reduceIte, eq_false c1, c14, eq_false c19, eq_false c24, eq_false c29, if_true, if_false, Bool.true_eq_false, Bool.false_eq_true, reduceIte, reduceCtorEq, Bool.not_true, Bool.not_false, true_and, and_true, and_false, false_and, or_true, true_or, or_false, false_or, not_true_eq_false, not_false_eq_true]; done) | (subst_vars; simp_all [putOk])
              rw [e] at k45
              exact wp_drop (k45 h hM hF) (by simp [lvle])
            · skip
              refine wp_aload_n (pc := 32) dX12_put_32 rfl rfl ?_
              refine wp_iload_n (pc := 33) dX12_put_33 rfl rfl ?_
              refine mp_call (pc := 34) [_] dX12_put_34 rfl cv_X12_214_13 rfl ⟨(Nat.le_of_ble_eq_true rfl), (Nat.le_of_ble_eq_true rfl)⟩ (Nat.le_of_ble_eq_true rfl) ⟨rfl, rfl⟩ (ms_isThing l G x am _ _ (by exact hT) hT2) hM hF (fun h hM hF => ?_)
              refine wp_ifB_eq (pc := 37) (tgt := 44) dX12_put_37 (by decide) (fun c37 => ?_) (fun c37 => ?_)
              · skip
                refine wp_iconst (pc := 44) (v := 0) dX12_put_44 (by decide) ?_
                have e : putOk M what n = false := by first | (simp only [putOk, hTx, hLx, eq_false c1, eq_true c6, c14, eq_false c19, eq_false c24, eq_true c29, c37, if_true, if_false, Bool.true_eq_false, Bool.false_eq_true, reduceIte, reduceCtorEq, Bool.not_true, Bool.not_false, true_and, and_true, and_false, false_and, or_true, true_or, or_false, false_or, not_true_eq_false, not_false_eq_true]; done) | (subst_vars; simp only [putOk, hTx, hLx, reduceIte, eq_false c1, c14, eq_false c19, eq_false c24, eq_true c29, c37, if_true, if_false, Bool.true_eq_false, Bool.false_eq_true, reduceIte, reduceCtorEq, Bool.not_true, Bool.not_false, true_and, and_true, and_false, false_and, or_true, true_or, or_false, false_or, not_true_eq_false, not_false_eq_true]; done) | (subst_vars; simp_all [putOk])
                rw [e] at k45
                exact wp_drop (k45 h hM hF) (by simp [lvle])
              · skip
                refine wp_iconst (pc := 40) (v := 1) dX12_put_40 (by decide) ?_
                refine wp_goto (pc := 41) (tgt := 45) dX12_put_41 (by decide) ?_
                have e : putOk M what n = true := by first | (simp only [putOk, hTx, hLx, eq_false c1, eq_true c6, c14, eq_false c19, eq_false c24, eq_true c29, c37, if_true, if_false, Bool.true_eq_false, Bool.false_eq_true, reduceIte, reduceCtorEq, Bool.not_true, Bool.not_false, true_and, and_true, and_false, false_and, or_true, true_or, or_false, false_or, not_true_eq_false, not_false_eq_true]; done) | (subst_vars; simp only [putOk, hTx, hLx, reduceIte, eq_false c1, c14, eq_false c19, eq_false c24, eq_true c29, c37, if_true, if_false, Bool.true_eq_false, Bool.false_eq_true, reduceIte, reduceCtorEq, Bool.not_true, Bool.not_false, true_and, and_true, and_false, false_and, or_true, true_or, or_false, false_or, not_true_eq_false, not_false_eq_true]; done) | (subst_vars; simp_all [putOk])
                rw [e] at k45
                exact wp_drop (k45 h hM hF) (by simp [lvle])
end M10
