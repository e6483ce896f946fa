/-! ===== the reference: what a letter does ===== -/
def wrt (M : MS) (t : Nat) : Nat → Bool
  | 0 => false
  | n + 1 => if wrt M t n = true then true else if M.2.1 23 (20 * t + n) = 0 then true else false
def prt (M : MS) (t : Nat) : Nat → Int32
  | 0 => 0
  | n + 1 => prt M t n + M.2.1 24 (20 * t + n)
def fts (M : MS) (t : Nat) (w mode parts : Int32) : Bool :=
  if M.2.1 12 t = 1 then (if mode = 1 then (if wrt M t (nx (M.2.1 21 t)) = true then false else true) else if M.2.1 21 t = 0 then true else false)
  else if M.2.1 12 t = 2 then (if M.2.1 14 t < prt M t (nx (M.2.1 21 t)) + parts then false else true)
  else if M.2.1 12 t = 3 then (if mode = 1 then (if wrt M t (nx (M.2.1 21 t)) = true then false else if M.2.1 15 t = -1 then true else false) else if M.2.1 21 t = 0 then true else false)
  else if M.2.1 12 t = 4 then (if M.2.1 21 t = 0 then (if M.2.1 16 t = 0 then true else if M.2.1 17 (8 * t) = w then true else false) else false)
  else if M.2.1 21 t = 0 then true else false
def grtM (M : MS) (t a : Nat) : MS :=
  let A := sL M 18 t (M.2.2 18 t + 1)
  let B := sL A 25 (20 * t + a) (A.2.2 18 t)
  let C := sL B 26 (20 * t + a) (kClk B (nx (B.1 27)) + (lng B t).toInt64)
  sS C 49 (C.1 49 + 1)
def ansM (M : MS) (j : Nat) (what : Int32) : MS :=
  let L := nx (M.1 35)
  let S := sndM M L what (M.2.1 37 j) (M.2.1 38 j) (M.2.1 39 j)
  if what = 7 then S else
  let A := sI S 43 L (S.2.1 43 j)
  sL A 45 L (A.2.2 45 j)
def rfsM (M : MS) (j : Nat) : MS := ansM (sS M 50 (M.1 50 + 1)) j 5
def lteM (M : MS) (j : Nat) : MS :=
  let A := ansM (sS M 51 (M.1 51 + 1)) j 7
  sL A 44 (nx (M.1 35)) (A.2.2 44 j)
def grsM (M : MS) (j t a : Nat) : MS :=
  let A := ansM M j 4
  let B := sI A 40 (nx (M.1 35)) (A.2.1 23 (20 * t + a))
  let C := sI B 41 (nx (M.1 35)) (B.2.1 24 (20 * t + a))
  sL C 44 (nx (M.1 35)) (C.2.2 25 (20 * t + a))
def mnt (M : MS) (j t : Nat) : Option Nat := match gof M t (M.2.1 37 j) (nx (M.2.1 21 t)) with
  | some a => if M.2.2 25 (20 * t + a) = M.2.2 44 j then some a else none
  | none => none
def prlM (M : MS) (j t a : Nat) : MS := grsM (sL M 26 (20 * t + a) (kClk M (nx (M.1 27)) + (lng M t).toInt64)) j t a
section M5
variable (l : Launch) (G : WG) (x : Nat) (am : Nat → Nat) (M : MS)
theorem ms_isWritten (t g : Nat) (ht : t < 20) (hg : M.2.1 21 t = nI g) (hg2 : g ≤ 20) : MSp l G x am mX12_isWritten [.int (nI t)] M (some (.int (bi (wrt M t g)))) (M) := by
  refine MSp.intro (lv := [_, _, _, _]) (by decide) rfl (Nat.le_of_ble_eq_true rfl) (fun h0 h hM hF => ?_)
  generalize hQ0 : (fun (w9 : Option Value) (h' : Hp) => w9 = (some (.int (bi (wrt M t g)))) ∧ InM x am (M) h' ∧ Fr x am h0 h') = Q0
  have loop : ∀ i, i ≤ g → ∀ h, InM x am (M) h → Fr x am h0 h → wp l G mX12_isWritten (zM G mX12_isWritten Q0) 4 [some (.ref x), some (.int (nI t)), some (.int (bi (wrt M t i))), some (.int (nI i))] [] h 0 0 := by
    refine loopU _ g (fun i hi ih => ?_) ?_
    · intro h hM hF
      refine wp_iload_n (pc := 4) dX12_isWritten_4 rfl rfl ?_
      refine wp_aload_n (pc := 5) dX12_isWritten_5 rfl rfl ?_
      refine wp_get (pc := 6) dX12_isWritten_6 fl_X12_60_13 hM.1 rfl ?_
      refine wp_iload_n (pc := 9) dX12_isWritten_9 rfl rfl ?_
      refine wp_iald (pc := 10) (i := t) dX12_isWritten_10 (hM.i 21 rfl) ⟨rfl, by omega, by decide⟩ ?_
      refine wp_icmp_ge (pc := 11) (tgt := 44) dX12_isWritten_11 (by decide) (fun z => absurd z (by rw [hg]; exact nI_ge hi (by omega))) (fun _ => ?_)
      refine wp_iload_n (pc := 14) dX12_isWritten_14 rfl rfl ?_
      refine wp_ifB_ne (pc := 15) (tgt := 32) dX12_isWritten_15 (by decide) (fun c15 => ?_) (fun c15 => ?_)
      · skip
        refine wp_iconst (pc := 32) (v := 1) dX12_isWritten_32 (by decide) ?_
        refine wp_goto (pc := 33) (tgt := 37) dX12_isWritten_33 (by decide) ?_
        refine wp_istore_n (pc := 37) (lv' := [_, _, _, _]) dX12_isWritten_37 rfl (Nat.le_of_ble_eq_true rfl) rfl rfl ?_
        refine wp_iinc (pc := 38) (v := _ + 1) (lv' := [_, _, _, _]) dX12_isWritten_38 rfl rfl rfl rfl ?_
        refine wp_goto (pc := 41) (tgt := 4) dX12_isWritten_41 (by decide) ?_
        exact wp_lv (ih h hM hF) (by simp [wrt, bi, nI_1, c15])
      · skip
        refine wp_aload_n (pc := 18) dX12_isWritten_18 rfl rfl ?_
        refine wp_get (pc := 19) dX12_isWritten_19 fl_X12_66_13 hM.1 rfl ?_
        refine wp_bipush (pc := 22) (v := 20) dX12_isWritten_22 (by decide) ?_
        refine wp_iload_n (pc := 24) dX12_isWritten_24 rfl rfl ?_
        refine wp_imul (pc := 25) dX12_isWritten_25 ?_
        refine wp_iload_n (pc := 26) dX12_isWritten_26 rfl rfl ?_
        refine wp_iadd (pc := 27) dX12_isWritten_27 ?_
        refine wp_iald (pc := 28) (i := ((20 * t) + i)) dX12_isWritten_28 (hM.i 23 rfl) ⟨by simp only [nl1, nl5, nl8, nl20, pk_mul, nI_add], by omega, by decide⟩ ?_
        refine wp_if_ne (pc := 29) (tgt := 36) dX12_isWritten_29 (by decide) (fun c29 => ?_) (fun c29 => ?_)
        · skip
          refine wp_iconst (pc := 36) (v := 0) dX12_isWritten_36 (by decide) ?_
          refine wp_istore_n (pc := 37) (lv' := [_, _, _, _]) dX12_isWritten_37 rfl (Nat.le_of_ble_eq_true rfl) rfl rfl ?_
          refine wp_iinc (pc := 38) (v := _ + 1) (lv' := [_, _, _, _]) dX12_isWritten_38 rfl rfl rfl rfl ?_
          refine wp_goto (pc := 41) (tgt := 4) dX12_isWritten_41 (by decide) ?_
          exact wp_lv (ih h hM hF) (by simp [wrt, bi, nI_1, c15, eq_false c29])
        · skip
          refine wp_iconst (pc := 32) (v := 1) dX12_isWritten_32 (by decide) ?_
          refine wp_goto (pc := 33) (tgt := 37) dX12_isWritten_33 (by decide) ?_
          refine wp_istore_n (pc := 37) (lv' := [_, _, _, _]) dX12_isWritten_37 rfl (Nat.le_of_ble_eq_true rfl) rfl rfl ?_
          refine wp_iinc (pc := 38) (v := _ + 1) (lv' := [_, _, _, _]) dX12_isWritten_38 rfl rfl rfl rfl ?_
          refine wp_goto (pc := 41) (tgt := 4) dX12_isWritten_41 (by decide) ?_
          exact wp_lv (ih h hM hF) (by simp [wrt, bi, nI_1, c15, eq_true c29])
    · intro h hM hF
      refine wp_iload_n (pc := 4) dX12_isWritten_4 rfl rfl ?_
      refine wp_aload_n (pc := 5) dX12_isWritten_5 rfl rfl ?_
      refine wp_get (pc := 6) dX12_isWritten_6 fl_X12_60_13 hM.1 rfl ?_
      refine wp_iload_n (pc := 9) dX12_isWritten_9 rfl rfl ?_
      refine wp_iald (pc := 10) (i := t) dX12_isWritten_10 (hM.i 21 rfl) ⟨rfl, by omega, by decide⟩ ?_
      refine wp_icmp_ge (pc := 11) (tgt := 44) dX12_isWritten_11 (by decide) (fun _ => ?_) (fun z => absurd (by rw [hg]; exact nI_le (Nat.le_refl _) (by omega)) z)
      refine wp_iload_n (pc := 44) dX12_isWritten_44 rfl rfl ?_
      exact wp_zret (pc := 45) dX12_isWritten_45 rfl (bi01 _) (by rw [← hQ0]; exact ⟨rfl, hM, hF⟩)
  refine wp_iconst (pc := 0) (v := 0) dX12_isWritten_0 (by decide) ?_
  refine wp_istore_n (pc := 1) (lv' := [_, _, _, _]) dX12_isWritten_1 rfl (Nat.le_of_ble_eq_true rfl) rfl rfl ?_
  refine wp_iconst (pc := 2) (v := 0) dX12_isWritten_2 (by decide) ?_
  refine wp_istore_n (pc := 3) (lv' := [_, _, _, _]) dX12_isWritten_3 rfl (Nat.le_of_ble_eq_true rfl) rfl rfl ?_
  exact loop 0 (Nat.zero_le _) h hM hF
theorem ms_partsOf (t g : Nat) (ht : t < 20) (hg : M.2.1 21 t = nI g) (hg2 : g ≤ 20) : MSp l G x am mX12_partsOf [.int (nI t)] M (some (.int (prt M t g))) (M) := by
  refine MSp.intro (lv := [_, _, _, _]) (by decide) rfl (Nat.le_of_ble_eq_true rfl) (fun h0 h hM hF => ?_)
  generalize hQ0 : (fun (w9 : Option Value) (h' : Hp) => w9 = (some (.int (prt M t g))) ∧ InM x am (M) h' ∧ Fr x am h0 h') = Q0
  have loop : ∀ i, i ≤ g → ∀ h, InM x am (M) h → Fr x am h0 h → wp l G mX12_partsOf (zM G mX12_partsOf Q0) 4 [some (.ref x), some (.int (nI t)), some (.int (prt M t i)), some (.int (nI i))] [] h 0 0 := by
    refine loopU _ g (fun i hi ih => ?_) ?_
    · intro h hM hF
      refine wp_iload_n (pc := 4) dX12_partsOf_4 rfl rfl ?_
      refine wp_aload_n (pc := 5) dX12_partsOf_5 rfl rfl ?_
      refine wp_get (pc := 6) dX12_partsOf_6 fl_X12_60_13 hM.1 rfl ?_
      refine wp_iload_n (pc := 9) dX12_partsOf_9 rfl rfl ?_
      refine wp_iald (pc := 10) (i := t) dX12_partsOf_10 (hM.i 21 rfl) ⟨rfl, by omega, by decide⟩ ?_
      refine wp_icmp_ge (pc := 11) (tgt := 34) dX12_partsOf_11 (by decide) (fun z => absurd z (by rw [hg]; exact nI_ge hi (by omega))) (fun _ => ?_)
      refine wp_iload_n (pc := 14) dX12_partsOf_14 rfl rfl ?_
      refine wp_aload_n (pc := 15) dX12_partsOf_15 rfl rfl ?_
      refine wp_get (pc := 16) dX12_partsOf_16 fl_X12_69_13 hM.1 rfl ?_
      refine wp_bipush (pc := 19) (v := 20) dX12_partsOf_19 (by decide) ?_
      refine wp_iload_n (pc := 21) dX12_partsOf_21 rfl rfl ?_
      refine wp_imul (pc := 22) dX12_partsOf_22 ?_
      refine wp_iload_n (pc := 23) dX12_partsOf_23 rfl rfl ?_
      refine wp_iadd (pc := 24) dX12_partsOf_24 ?_
      refine wp_iald (pc := 25) (i := ((20 * t) + i)) dX12_partsOf_25 (hM.i 24 rfl) ⟨by simp only [nl1, nl5, nl8, nl20, pk_mul, nI_add], by omega, by decide⟩ ?_
      refine wp_iadd (pc := 26) dX12_partsOf_26 ?_
      refine wp_istore_n (pc := 27) (lv' := [_, _, _, _]) dX12_partsOf_27 rfl (Nat.le_of_ble_eq_true rfl) rfl rfl ?_
      refine wp_iinc (pc := 28) (v := _ + 1) (lv' := [_, _, _, _]) dX12_partsOf_28 rfl rfl rfl rfl ?_
      refine wp_goto (pc := 31) (tgt := 4) dX12_partsOf_31 (by decide) ?_
      exact wp_lv (ih h hM hF) (by simp [prt, nI_1])
    · intro h hM hF
      refine wp_iload_n (pc := 4) dX12_partsOf_4 rfl rfl ?_
      refine wp_aload_n (pc := 5) dX12_partsOf_5 rfl rfl ?_
      refine wp_get (pc := 6) dX12_partsOf_6 fl_X12_60_13 hM.1 rfl ?_
      refine wp_iload_n (pc := 9) dX12_partsOf_9 rfl rfl ?_
      refine wp_iald (pc := 10) (i := t) dX12_partsOf_10 (hM.i 21 rfl) ⟨rfl, by omega, by decide⟩ ?_
      refine wp_icmp_ge (pc := 11) (tgt := 34) dX12_partsOf_11 (by decide) (fun _ => ?_) (fun z => absurd (by rw [hg]; exact nI_le (Nat.le_refl _) (by omega)) z)
      refine wp_iload_n (pc := 34) dX12_partsOf_34 rfl rfl ?_
      exact wp_iret (pc := 35) dX12_partsOf_35 rfl (by rw [← hQ0]; exact ⟨rfl, hM, hF⟩)
  refine wp_iconst (pc := 0) (v := 0) dX12_partsOf_0 (by decide) ?_
  refine wp_istore_n (pc := 1) (lv' := [_, _, _, _]) dX12_partsOf_1 rfl (Nat.le_of_ble_eq_true rfl) rfl rfl ?_
  refine wp_iconst (pc := 2) (v := 0) dX12_partsOf_2 (by decide) ?_
  refine wp_istore_n (pc := 3) (lv' := [_, _, _, _]) dX12_partsOf_3 rfl (Nat.le_of_ble_eq_true rfl) rfl rfl ?_
  exact loop 0 (Nat.zero_le _) h hM hF
theorem kne : ((2 : Int32) = 1) = False ∧ ((3 : Int32) = 1) = False ∧ ((3 : Int32) = 2) = False ∧ ((4 : Int32) = 1) = False ∧ ((4 : Int32) = 2) = False ∧ ((4 : Int32) = 3) = False := by decide
theorem ms_fits (w : Int32) (mode : Int32) (parts : Int32) (t : Nat) {g : Nat} (ht : t < 20) (hg : M.2.1 21 t = nI g) (hg2 : g ≤ 20) : MSp l G x am mX12_fits [.int (nI t), .int w, .int mode, .int parts] M (some (.int (bi (fts M t w mode parts)))) M := by
  refine MSp.intro (lv := [_, _, _, _, _]) (by decide) rfl (Nat.le_of_ble_eq_true rfl) (fun h0 h hM hF => ?_)
  have hgx : nx (M.2.1 21 t) = g := by rw [hg]; exact nx_nI (by omega)
  refine wp_aload_n (pc := 0) dX12_fits_0 rfl rfl ?_
  refine wp_get (pc := 1) dX12_fits_1 fl_X12_32_13 hM.1 rfl ?_
  refine wp_iload_n (pc := 4) dX12_fits_4 rfl rfl ?_
  refine wp_iald (pc := 5) (i := t) dX12_fits_5 (hM.i 12 rfl) ⟨rfl, by omega, by decide⟩ ?_
  refine wp_tsw_1_4 (pc := 6) dX12_fits_6 (t0 := 36) (t1 := 72) (t2 := 95) (t3 := 141) (td := 178) (by decide) (by decide) (by decide) (by decide) (by decide) (fun c6 => ?_) (fun c6 => ?_) (fun c6 => ?_) (fun c6 => ?_) (fun c6 => ?_)
  · skip
    refine wp_iload_n (pc := 36) dX12_fits_36 rfl rfl ?_
    refine wp_iconst (pc := 37) (v := 1) dX12_fits_37 (by decide) ?_
    refine wp_icmp_ne (pc := 38) (tgt := 57) dX12_fits_38 (by decide) (fun c38 => ?_) (fun c38 => ?_)
    · skip
      refine wp_aload_n (pc := 57) dX12_fits_57 rfl rfl ?_
      refine wp_get (pc := 58) dX12_fits_58 fl_X12_60_13 hM.1 rfl ?_
      refine wp_iload_n (pc := 61) dX12_fits_61 rfl rfl ?_
      refine wp_iald (pc := 62) (i := t) dX12_fits_62 (hM.i 21 rfl) ⟨rfl, by omega, by decide⟩ ?_
      refine wp_if_ne (pc := 63) (tgt := 70) dX12_fits_63 (by decide) (fun c63 => ?_) (fun c63 => ?_)
      · skip
        refine wp_iconst (pc := 70) (v := 0) dX12_fits_70 (by decide) ?_
        exact wp_zret (pc := 71) dX12_fits_71 rfl (by decide) ⟨by rw [fts, c6]; simp only [hgx, eq_false c38, eq_false c63, if_true, if_false, Bool.true_eq_false, Bool.false_eq_true, reduceIte, reduceCtorEq, Bool.not_true, Bool.not_false, true_and, and_true, and_false, false_and, or_true, true_or, or_false, false_or, not_true_eq_false, not_false_eq_true, kne, bi], hM, hF⟩
      · skip
        refine wp_iconst (pc := 66) (v := 1) dX12_fits_66 (by decide) ?_
        refine wp_goto (pc := 67) (tgt := 71) dX12_fits_67 (by decide) ?_
        exact wp_zret (pc := 71) dX12_fits_71 rfl (by decide) ⟨by rw [fts, c6]; simp only [hgx, eq_false c38, eq_true c63, if_true, if_false, Bool.true_eq_false, Bool.false_eq_true, reduceIte, reduceCtorEq, Bool.not_true, Bool.not_false, true_and, and_true, and_false, false_and, or_true, true_or, or_false, false_or, not_true_eq_false, not_false_eq_true, kne, bi], hM, hF⟩
    · skip
      refine wp_aload_n (pc := 41) dX12_fits_41 rfl rfl ?_
      refine wp_iload_n (pc := 42) dX12_fits_42 rfl rfl ?_
      refine mp_call (pc := 43) [_] dX12_fits_43 rfl cv_X12_242_13 rfl ⟨(Nat.le_of_ble_eq_true rfl), (Nat.le_of_ble_eq_true rfl)⟩ (Nat.le_of_ble_eq_true rfl) ⟨rfl, rfl⟩ (ms_isWritten l G x am _ _ _ (by omega) (by exact hg) hg2) hM hF (fun h hM hF => ?_)
      refine wp_ifB_ne (pc := 46) (tgt := 53) dX12_fits_46 (by decide) (fun c46 => ?_) (fun c46 => ?_)
      · skip
        refine wp_iconst (pc := 53) (v := 0) dX12_fits_53 (by decide) ?_
        refine wp_goto (pc := 54) (tgt := 71) dX12_fits_54 (by decide) ?_
        exact wp_zret (pc := 71) dX12_fits_71 rfl (by decide) ⟨by rw [fts, c6]; simp only [hgx, eq_true c38, c46, if_true, if_false, Bool.true_eq_false, Bool.false_eq_true, reduceIte, reduceCtorEq, Bool.not_true, Bool.not_false, true_and, and_true, and_false, false_and, or_true, true_or, or_false, false_or, not_true_eq_false, not_false_eq_true, kne, bi], hM, hF⟩
      · skip
        refine wp_iconst (pc := 49) (v := 1) dX12_fits_49 (by decide) ?_
        refine wp_goto (pc := 50) (tgt := 71) dX12_fits_50 (by decide) ?_
        exact wp_zret (pc := 71) dX12_fits_71 rfl (by decide) ⟨by rw [fts, c6]; simp only [hgx, eq_true c38, c46, if_true, if_false, Bool.true_eq_false, Bool.false_eq_true, reduceIte, reduceCtorEq, Bool.not_true, Bool.not_false, true_and, and_true, and_false, false_and, or_true, true_or, or_false, false_or, not_true_eq_false, not_false_eq_true, kne, bi], hM, hF⟩
  · skip
    refine wp_aload_n (pc := 72) dX12_fits_72 rfl rfl ?_
    refine wp_iload_n (pc := 73) dX12_fits_73 rfl rfl ?_
    refine mp_call (pc := 74) [_] dX12_fits_74 rfl cv_X12_245_13 rfl ⟨(Nat.le_of_ble_eq_true rfl), (Nat.le_of_ble_eq_true rfl)⟩ (Nat.le_of_ble_eq_true rfl) ⟨rfl, rfl⟩ (ms_partsOf l G x am _ _ _ (by omega) (by exact hg) hg2) hM hF (fun h hM hF => ?_)
    refine wp_iload (pc := 77) dX12_fits_77 rfl ?_
    refine wp_iadd (pc := 79) dX12_fits_79 ?_
    refine wp_aload_n (pc := 80) dX12_fits_80 rfl rfl ?_
    refine wp_get (pc := 81) dX12_fits_81 fl_X12_38_13 hM.1 rfl ?_
    refine wp_iload_n (pc := 84) dX12_fits_84 rfl rfl ?_
    refine wp_iald (pc := 85) (i := t) dX12_fits_85 (hM.i 14 rfl) ⟨rfl, by omega, by decide⟩ ?_
    refine wp_icmp_gt (pc := 86) (tgt := 93) dX12_fits_86 (by decide) (fun c86 => ?_) (fun c86 => ?_)
    · skip
      refine wp_iconst (pc := 93) (v := 0) dX12_fits_93 (by decide) ?_
      exact wp_zret (pc := 94) dX12_fits_94 rfl (by decide) ⟨by rw [fts, c6]; simp only [hgx, eq_true c86, if_true, if_false, Bool.true_eq_false, Bool.false_eq_true, reduceIte, reduceCtorEq, Bool.not_true, Bool.not_false, true_and, and_true, and_false, false_and, or_true, true_or, or_false, false_or, not_true_eq_false, not_false_eq_true, kne, bi], hM, hF⟩
    · skip
      refine wp_iconst (pc := 89) (v := 1) dX12_fits_89 (by decide) ?_
      refine wp_goto (pc := 90) (tgt := 94) dX12_fits_90 (by decide) ?_
      exact wp_zret (pc := 94) dX12_fits_94 rfl (by decide) ⟨by rw [fts, c6]; simp only [hgx, eq_false c86, if_true, if_false, Bool.true_eq_false, Bool.false_eq_true, reduceIte, reduceCtorEq, Bool.not_true, Bool.not_false, true_and, and_true, and_false, false_and, or_true, true_or, or_false, false_or, not_true_eq_false, not_false_eq_true, kne, bi], hM, hF⟩
  · skip
    refine wp_iload_n (pc := 95) dX12_fits_95 rfl rfl ?_
    refine wp_iconst (pc := 96) (v := 1) dX12_fits_96 (by decide) ?_
    refine wp_icmp_ne (pc := 97) (tgt := 126) dX12_fits_97 (by decide) (fun c97 => ?_) (fun c97 => ?_)
    · skip
      refine wp_aload_n (pc := 126) dX12_fits_126 rfl rfl ?_
      refine wp_get (pc := 127) dX12_fits_127 fl_X12_60_13 hM.1 rfl ?_
      refine wp_iload_n (pc := 130) dX12_fits_130 rfl rfl ?_
      refine wp_iald (pc := 131) (i := t) dX12_fits_131 (hM.i 21 rfl) ⟨rfl, by omega, by decide⟩ ?_
      refine wp_if_ne (pc := 132) (tgt := 139) dX12_fits_132 (by decide) (fun c132 => ?_) (fun c132 => ?_)
      · skip
        refine wp_iconst (pc := 139) (v := 0) dX12_fits_139 (by decide) ?_
        exact wp_zret (pc := 140) dX12_fits_140 rfl (by decide) ⟨by rw [fts, c6]; simp only [hgx, eq_false c97, eq_false c132, if_true, if_false, Bool.true_eq_false, Bool.false_eq_true, reduceIte, reduceCtorEq, Bool.not_true, Bool.not_false, true_and, and_true, and_false, false_and, or_true, true_or, or_false, false_or, not_true_eq_false, not_false_eq_true, kne, bi], hM, hF⟩
      · skip
        refine wp_iconst (pc := 135) (v := 1) dX12_fits_135 (by decide) ?_
        refine wp_goto (pc := 136) (tgt := 140) dX12_fits_136 (by decide) ?_
        exact wp_zret (pc := 140) dX12_fits_140 rfl (by decide) ⟨by rw [fts, c6]; simp only [hgx, eq_false c97, eq_true c132, if_true, if_false, Bool.true_eq_false, Bool.false_eq_true, reduceIte, reduceCtorEq, Bool.not_true, Bool.not_false, true_and, and_true, and_false, false_and, or_true, true_or, or_false, false_or, not_true_eq_false, not_false_eq_true, kne, bi], hM, hF⟩
    · skip
      refine wp_aload_n (pc := 100) dX12_fits_100 rfl rfl ?_
      refine wp_iload_n (pc := 101) dX12_fits_101 rfl rfl ?_
      refine mp_call (pc := 102) [_] dX12_fits_102 rfl cv_X12_242_13 rfl ⟨(Nat.le_of_ble_eq_true rfl), (Nat.le_of_ble_eq_true rfl)⟩ (Nat.le_of_ble_eq_true rfl) ⟨rfl, rfl⟩ (ms_isWritten l G x am _ _ _ (by omega) (by exact hg) hg2) hM hF (fun h hM hF => ?_)
      refine wp_ifB_ne (pc := 105) (tgt := 122) dX12_fits_105 (by decide) (fun c105 => ?_) (fun c105 => ?_)
      · skip
        refine wp_iconst (pc := 122) (v := 0) dX12_fits_122 (by decide) ?_
        refine wp_goto (pc := 123) (tgt := 140) dX12_fits_123 (by decide) ?_
        exact wp_zret (pc := 140) dX12_fits_140 rfl (by decide) ⟨by rw [fts, c6]; simp only [hgx, eq_true c97, c105, if_true, if_false, Bool.true_eq_false, Bool.false_eq_true, reduceIte, reduceCtorEq, Bool.not_true, Bool.not_false, true_and, and_true, and_false, false_and, or_true, true_or, or_false, false_or, not_true_eq_false, not_false_eq_true, kne, bi], hM, hF⟩
      · skip
        refine wp_aload_n (pc := 108) dX12_fits_108 rfl rfl ?_
        refine wp_get (pc := 109) dX12_fits_109 fl_X12_41_13 hM.1 rfl ?_
        refine wp_iload_n (pc := 112) dX12_fits_112 rfl rfl ?_
        refine wp_iald (pc := 113) (i := t) dX12_fits_113 (hM.i 15 rfl) ⟨rfl, by omega, by decide⟩ ?_
        refine wp_iconst (pc := 114) (v := (-1)) dX12_fits_114 (by decide) ?_
        refine wp_icmp_ne (pc := 115) (tgt := 122) dX12_fits_115 (by decide) (fun c115 => ?_) (fun c115 => ?_)
        · skip
          refine wp_iconst (pc := 122) (v := 0) dX12_fits_122 (by decide) ?_
          refine wp_goto (pc := 123) (tgt := 140) dX12_fits_123 (by decide) ?_
          exact wp_zret (pc := 140) dX12_fits_140 rfl (by decide) ⟨by rw [fts, c6]; simp only [hgx, eq_true c97, c105, eq_false c115, if_true, if_false, Bool.true_eq_false, Bool.false_eq_true, reduceIte, reduceCtorEq, Bool.not_true, Bool.not_false, true_and, and_true, and_false, false_and, or_true, true_or, or_false, false_or, not_true_eq_false, not_false_eq_true, kne, bi], hM, hF⟩
        · skip
          refine wp_iconst (pc := 118) (v := 1) dX12_fits_118 (by decide) ?_
          refine wp_goto (pc := 119) (tgt := 140) dX12_fits_119 (by decide) ?_
          exact wp_zret (pc := 140) dX12_fits_140 rfl (by decide) ⟨by rw [fts, c6]; simp only [hgx, eq_true c97, c105, eq_true c115, if_true, if_false, Bool.true_eq_false, Bool.false_eq_true, reduceIte, reduceCtorEq, Bool.not_true, Bool.not_false, true_and, and_true, and_false, false_and, or_true, true_or, or_false, false_or, not_true_eq_false, not_false_eq_true, kne, bi], hM, hF⟩
  · skip
    refine wp_aload_n (pc := 141) dX12_fits_141 rfl rfl ?_
    refine wp_get (pc := 142) dX12_fits_142 fl_X12_60_13 hM.1 rfl ?_
    refine wp_iload_n (pc := 145) dX12_fits_145 rfl rfl ?_
    refine wp_iald (pc := 146) (i := t) dX12_fits_146 (hM.i 21 rfl) ⟨rfl, by omega, by decide⟩ ?_
    refine wp_if_ne (pc := 147) (tgt := 176) dX12_fits_147 (by decide) (fun c147 => ?_) (fun c147 => ?_)
    · skip
      refine wp_iconst (pc := 176) (v := 0) dX12_fits_176 (by decide) ?_
      exact wp_zret (pc := 177) dX12_fits_177 rfl (by decide) ⟨by rw [fts, c6]; simp only [hgx, eq_false c147, if_true, if_false, Bool.true_eq_false, Bool.false_eq_true, reduceIte, reduceCtorEq, Bool.not_true, Bool.not_false, true_and, and_true, and_false, false_and, or_true, true_or, or_false, false_or, not_true_eq_false, not_false_eq_true, kne, bi], hM, hF⟩
    · skip
      refine wp_aload_n (pc := 150) dX12_fits_150 rfl rfl ?_
      refine wp_get (pc := 151) dX12_fits_151 fl_X12_44_13 hM.1 rfl ?_
      refine wp_iload_n (pc := 154) dX12_fits_154 rfl rfl ?_
      refine wp_iald (pc := 155) (i := t) dX12_fits_155 (hM.i 16 rfl) ⟨rfl, by omega, by decide⟩ ?_
      refine wp_if_eq (pc := 156) (tgt := 172) dX12_fits_156 (by decide) (fun c156 => ?_) (fun c156 => ?_)
      · skip
        refine wp_iconst (pc := 172) (v := 1) dX12_fits_172 (by decide) ?_
        refine wp_goto (pc := 173) (tgt := 177) dX12_fits_173 (by decide) ?_
        exact wp_zret (pc := 177) dX12_fits_177 rfl (by decide) ⟨by rw [fts, c6]; simp only [hgx, eq_true c147, eq_true c156, if_true, if_false, Bool.true_eq_false, Bool.false_eq_true, reduceIte, reduceCtorEq, Bool.not_true, Bool.not_false, true_and, and_true, and_false, false_and, or_true, true_or, or_false, false_or, not_true_eq_false, not_false_eq_true, kne, bi], hM, hF⟩
      · skip
        refine wp_aload_n (pc := 159) dX12_fits_159 rfl rfl ?_
        refine wp_get (pc := 160) dX12_fits_160 fl_X12_47_13 hM.1 rfl ?_
        refine wp_bipush (pc := 163) (v := 8) dX12_fits_163 (by decide) ?_
        refine wp_iload_n (pc := 165) dX12_fits_165 rfl rfl ?_
        refine wp_imul (pc := 166) dX12_fits_166 ?_
        refine wp_iald (pc := 167) (i := (8 * t)) dX12_fits_167 (hM.i 17 rfl) ⟨by simp only [nl1, nl5, nl8, nl20, pk_mul, nI_add], by omega, by decide⟩ ?_
        refine wp_iload_n (pc := 168) dX12_fits_168 rfl rfl ?_
        refine wp_icmp_ne (pc := 169) (tgt := 176) dX12_fits_169 (by decide) (fun c169 => ?_) (fun c169 => ?_)
        · skip
          refine wp_iconst (pc := 176) (v := 0) dX12_fits_176 (by decide) ?_
          exact wp_zret (pc := 177) dX12_fits_177 rfl (by decide) ⟨by rw [fts, c6]; simp only [hgx, eq_true c147, eq_false c156, eq_false c169, if_true, if_false, Bool.true_eq_false, Bool.false_eq_true, reduceIte, reduceCtorEq, Bool.not_true, Bool.not_false, true_and, and_true, and_false, false_and, or_true, true_or, or_false, false_or, not_true_eq_false, not_false_eq_true, kne, bi], hM, hF⟩
        · skip
          refine wp_iconst (pc := 172) (v := 1) dX12_fits_172 (by decide) ?_
          refine wp_goto (pc := 173) (tgt := 177) dX12_fits_173 (by decide) ?_
          exact wp_zret (pc := 177) dX12_fits_177 rfl (by decide) ⟨by rw [fts, c6]; simp only [hgx, eq_true c147, eq_false c156, eq_true c169, if_true, if_false, Bool.true_eq_false, Bool.false_eq_true, reduceIte, reduceCtorEq, Bool.not_true, Bool.not_false, true_and, and_true, and_false, false_and, or_true, true_or, or_false, false_or, not_true_eq_false, not_false_eq_true, kne, bi], hM, hF⟩
  · skip
    refine wp_aload_n (pc := 178) dX12_fits_178 rfl rfl ?_
    refine wp_get (pc := 179) dX12_fits_179 fl_X12_60_13 hM.1 rfl ?_
    refine wp_iload_n (pc := 182) dX12_fits_182 rfl rfl ?_
    refine wp_iald (pc := 183) (i := t) dX12_fits_183 (hM.i 21 rfl) ⟨rfl, by omega, by decide⟩ ?_
    refine wp_if_ne (pc := 184) (tgt := 191) dX12_fits_184 (by decide) (fun c184 => ?_) (fun c184 => ?_)
    · skip
      refine wp_iconst (pc := 191) (v := 0) dX12_fits_191 (by decide) ?_
      exact wp_zret (pc := 192) dX12_fits_192 rfl (by decide) ⟨by rw [fts, if_neg (sw_ne c6 (by decide)), if_neg (sw_ne c6 (by decide)), if_neg (sw_ne c6 (by decide)), if_neg (sw_ne c6 (by decide))]; simp only [eq_false c184, if_true, if_false, Bool.true_eq_false, Bool.false_eq_true, reduceIte, reduceCtorEq, Bool.not_true, Bool.not_false, true_and, and_true, and_false, false_and, or_true, true_or, or_false, false_or, not_true_eq_false, not_false_eq_true, bi], hM, hF⟩
    · skip
      refine wp_iconst (pc := 187) (v := 1) dX12_fits_187 (by decide) ?_
      refine wp_goto (pc := 188) (tgt := 192) dX12_fits_188 (by decide) ?_
      exact wp_zret (pc := 192) dX12_fits_192 rfl (by decide) ⟨by rw [fts, if_neg (sw_ne c6 (by decide)), if_neg (sw_ne c6 (by decide)), if_neg (sw_ne c6 (by decide)), if_neg (sw_ne c6 (by decide))]; simp only [eq_true c184, if_true, if_false, Bool.true_eq_false, Bool.false_eq_true, reduceIte, reduceCtorEq, Bool.not_true, Bool.not_false, true_and, and_true, and_false, false_and, or_true, true_or, or_false, false_or, not_true_eq_false, not_false_eq_true, bi], hM, hF⟩
theorem ms_granted  (t : Nat) (a : Nat) {k : Nat} (ht : t < 20) (ha : a < 20) (hk : M.1 27 = nI k) (hk5 : k < 5) (hd0 : ¬ 1000 - M.1 0 = 0) : MSp l G x am mX12_granted [.int (nI t), .int (nI a)] M none (grtM M t a) := by
  refine MSp.intro (lv := [_, _, _]) (by decide) rfl (Nat.le_of_ble_eq_true rfl) (fun h0 h hM hF => ?_)
  have hkx : nx (M.1 27) = k := by rw [hk]; exact nx_nI (by omega)
  refine wp_aload_n (pc := 0) dX12_granted_0 rfl rfl ?_
  refine wp_get (pc := 1) dX12_granted_1 fl_X12_50_13 hM.1 rfl ?_
  refine wp_iload_n (pc := 4) dX12_granted_4 rfl rfl ?_
  refine wp_dup2 (pc := 5) dX12_granted_5 rfl rfl ?_
  refine wp_lald (pc := 6) (i := t) dX12_granted_6 (hM.j 18 rfl) ⟨rfl, by omega, by decide⟩ ?_
  refine wp_lconst (pc := 7) (v := 1) dX12_granted_7 (by decide) ?_
  refine wp_ladd (pc := 8) dX12_granted_8 ?_
  refine mp_last (pc := 9) (k := 18) (i := t) dX12_granted_9 hM hF rfl ⟨rfl, by omega, by decide⟩ (fun h hM hF => ?_)
  refine wp_aload_n (pc := 10) dX12_granted_10 rfl rfl ?_
  refine wp_get (pc := 11) dX12_granted_11 fl_X12_72_13 hM.1 rfl ?_
  refine wp_bipush (pc := 14) (v := 20) dX12_granted_14 (by decide) ?_
  refine wp_iload_n (pc := 16) dX12_granted_16 rfl rfl ?_
  refine wp_imul (pc := 17) dX12_granted_17 ?_
  refine wp_iload_n (pc := 18) dX12_granted_18 rfl rfl ?_
  refine wp_iadd (pc := 19) dX12_granted_19 ?_
  refine wp_aload_n (pc := 20) dX12_granted_20 rfl rfl ?_
  refine wp_get (pc := 21) dX12_granted_21 fl_X12_50_13 hM.1 rfl ?_
  refine wp_iload_n (pc := 24) dX12_granted_24 rfl rfl ?_
  refine wp_lald (pc := 25) (i := t) dX12_granted_25 (hM.j 18 rfl) ⟨rfl, by omega, by decide⟩ ?_
  refine mp_last (pc := 26) (k := 25) (i := ((20 * t) + a)) dX12_granted_26 hM hF rfl ⟨by simp only [nl1, nl5, nl8, nl20, pk_mul, nI_add], by omega, by decide⟩ (fun h hM hF => ?_)
  refine wp_aload_n (pc := 27) dX12_granted_27 rfl rfl ?_
  refine wp_get (pc := 28) dX12_granted_28 fl_X12_75_13 hM.1 rfl ?_
  refine wp_bipush (pc := 31) (v := 20) dX12_granted_31 (by decide) ?_
  refine wp_iload_n (pc := 33) dX12_granted_33 rfl rfl ?_
  refine wp_imul (pc := 34) dX12_granted_34 ?_
  refine wp_iload_n (pc := 35) dX12_granted_35 rfl rfl ?_
  refine wp_iadd (pc := 36) dX12_granted_36 ?_
  refine wp_aload_n (pc := 37) dX12_granted_37 rfl rfl ?_
  refine wp_aload_n (pc := 38) dX12_granted_38 rfl rfl ?_
  refine wp_get (pc := 39) dX12_granted_39 fl_X12_78_13 hM.1 rfl ?_
  rw [show (sL (sL M 18 t (M.2.2 18 t + 1)) 25 (20 * t + a) ((sL M 18 t (M.2.2 18 t + 1)).2.2 18 t)).1 27 = nI k from hk]
  refine mp_call (pc := 42) [_] dX12_granted_42 rfl cv_X12_187_13 rfl ⟨(Nat.le_of_ble_eq_true rfl), (Nat.le_of_ble_eq_true rfl)⟩ (Nat.le_of_ble_eq_true rfl) ⟨rfl, rfl⟩ (ms_kClock l G x am _ _ hk5) hM hF (fun h hM hF => ?_)
  refine wp_aload_n (pc := 45) dX12_granted_45 rfl rfl ?_
  refine wp_iload_n (pc := 46) dX12_granted_46 rfl rfl ?_
  refine mp_call (pc := 47) [_] dX12_granted_47 rfl cv_X12_210_13 rfl ⟨(Nat.le_of_ble_eq_true rfl), (Nat.le_of_ble_eq_true rfl)⟩ (Nat.le_of_ble_eq_true rfl) ⟨rfl, rfl⟩ (ms_long0 l G x am _ _ (by omega) (by exact hd0)) hM hF (fun h hM hF => ?_)
  refine wp_i2l (pc := 50) dX12_granted_50 ?_
  refine wp_ladd (pc := 51) dX12_granted_51 ?_
  refine mp_last (pc := 52) (k := 26) (i := ((20 * t) + a)) dX12_granted_52 hM hF rfl ⟨by simp only [nl1, nl5, nl8, nl20, pk_mul, nI_add], by omega, by decide⟩ (fun h hM hF => ?_)
  refine wp_aload_n (pc := 53) dX12_granted_53 rfl rfl ?_
  refine wp_dup (pc := 54) dX12_granted_54 rfl ?_
  refine wp_get (pc := 55) dX12_granted_55 fl_X12_248_13 hM.1 rfl ?_
  refine wp_iconst (pc := 58) (v := 1) dX12_granted_58 (by decide) ?_
  refine wp_iadd (pc := 59) dX12_granted_59 ?_
  refine mp_putS (pc := 60) dX12_granted_60 fl_X12_248_13 hM hF rfl rfl (by decide) rfl (fun h hM hF => ?_)
  exact wp_vret (pc := 63) dX12_granted_63 rfl ⟨rfl, by unfold grtM; simp only []; rw [show nx ((sL (sL M 18 t (M.2.2 18 t + 1)) 25 (20 * t + a) ((sL M 18 t (M.2.2 18 t + 1)).2.2 18 t)).1 27) = k from hkx]; exact hM, hF⟩
theorem ms_answers (what : Int32) (j : Nat) {L : Nat} (hL : M.1 35 = nI L) (hL4 : L < 400) (hj : j < 400) : MSp l G x am mX12_answers [.int (nI j), .int what] M (some (.int (nI L))) (ansM M j what) := by
  refine MSp.intro (lv := [_, _, _, _]) (by decide) rfl (Nat.le_of_ble_eq_true rfl) (fun h0 h hM hF => ?_)
  have hLx : nx (M.1 35) = L := by rw [hL]; exact nx_nI (by omega)
  refine wp_aload_n (pc := 0) dX12_answers_0 rfl rfl ?_
  refine wp_iload_n (pc := 1) dX12_answers_1 rfl rfl ?_
  refine wp_aload_n (pc := 2) dX12_answers_2 rfl rfl ?_
  refine wp_get (pc := 3) dX12_answers_3 fl_X12_103_13 hM.1 rfl ?_
  refine wp_iload_n (pc := 6) dX12_answers_6 rfl rfl ?_
  refine wp_iald (pc := 7) (i := j) dX12_answers_7 (hM.i 37 rfl) ⟨rfl, by omega, by decide⟩ ?_
  refine wp_aload_n (pc := 8) dX12_answers_8 rfl rfl ?_
  refine wp_get (pc := 9) dX12_answers_9 fl_X12_106_13 hM.1 rfl ?_
  refine wp_iload_n (pc := 12) dX12_answers_12 rfl rfl ?_
  refine wp_iald (pc := 13) (i := j) dX12_answers_13 (hM.i 38 rfl) ⟨rfl, by omega, by decide⟩ ?_
  refine wp_aload_n (pc := 14) dX12_answers_14 rfl rfl ?_
  refine wp_get (pc := 15) dX12_answers_15 fl_X12_109_13 hM.1 rfl ?_
  refine wp_iload_n (pc := 18) dX12_answers_18 rfl rfl ?_
  refine wp_iald (pc := 19) (i := j) dX12_answers_19 (hM.i 39 rfl) ⟨rfl, by omega, by decide⟩ ?_
  refine mp_call (pc := 20) [_, _, _, _] dX12_answers_20 rfl cv_X12_217_13 rfl ⟨(Nat.le_of_ble_eq_true rfl), (Nat.le_of_ble_eq_true rfl)⟩ (Nat.le_of_ble_eq_true rfl) ⟨rfl, rfl⟩ (ms_send l G x am _ _ _ _ _ (by exact hL) (by omega)) hM hF (fun h hM hF => ?_)
  refine wp_istore_n (pc := 23) (lv' := [_, _, _, _]) dX12_answers_23 rfl (Nat.le_of_ble_eq_true rfl) rfl rfl ?_
  refine wp_iload_n (pc := 24) dX12_answers_24 rfl rfl ?_
  refine wp_bipush (pc := 25) (v := 7) dX12_answers_25 (by decide) ?_
  refine wp_icmp_eq (pc := 27) (tgt := 54) dX12_answers_27 (by decide) (fun c27 => ?_) (fun c27 => ?_)
  · skip
    refine wp_iload_n (pc := 54) dX12_answers_54 rfl rfl ?_
    exact wp_iret (pc := 55) dX12_answers_55 rfl ⟨rfl, by simp only [ansM, hLx, eq_true c27, if_true, if_false, Bool.true_eq_false, Bool.false_eq_true, reduceIte, reduceCtorEq, Bool.not_true, Bool.not_false, true_and, and_true, and_false, false_and, or_true, true_or, or_false, false_or, not_true_eq_false, not_false_eq_true] <;> exact hM, hF⟩
  · skip
    refine wp_aload_n (pc := 30) dX12_answers_30 rfl rfl ?_
    refine wp_get (pc := 31) dX12_answers_31 fl_X12_121_13 hM.1 rfl ?_
    refine wp_iload_n (pc := 34) dX12_answers_34 rfl rfl ?_
    refine wp_aload_n (pc := 35) dX12_answers_35 rfl rfl ?_
    refine wp_get (pc := 36) dX12_answers_36 fl_X12_121_13 hM.1 rfl ?_
    refine wp_iload_n (pc := 39) dX12_answers_39 rfl rfl ?_
    refine wp_iald (pc := 40) (i := j) dX12_answers_40 (hM.i 43 rfl) ⟨rfl, by omega, by decide⟩ ?_
    refine mp_iast (pc := 41) (k := 43) (i := L) dX12_answers_41 hM hF rfl ⟨rfl, by omega, by decide⟩ (fun h hM hF => ?_)
    refine wp_aload_n (pc := 42) dX12_answers_42 rfl rfl ?_
    refine wp_get (pc := 43) dX12_answers_43 fl_X12_127_13 hM.1 rfl ?_
    refine wp_iload_n (pc := 46) dX12_answers_46 rfl rfl ?_
    refine wp_aload_n (pc := 47) dX12_answers_47 rfl rfl ?_
    refine wp_get (pc := 48) dX12_answers_48 fl_X12_127_13 hM.1 rfl ?_
    refine wp_iload_n (pc := 51) dX12_answers_51 rfl rfl ?_
    refine wp_lald (pc := 52) (i := j) dX12_answers_52 (hM.j 45 rfl) ⟨rfl, by omega, by decide⟩ ?_
    refine mp_last (pc := 53) (k := 45) (i := L) dX12_answers_53 hM hF rfl ⟨rfl, by omega, by decide⟩ (fun h hM hF => ?_)
    refine wp_iload_n (pc := 54) dX12_answers_54 rfl rfl ?_
    exact wp_iret (pc := 55) dX12_answers_55 rfl ⟨rfl, by simp only [ansM, hLx, eq_false c27, if_true, if_false, Bool.true_eq_false, Bool.false_eq_true, reduceIte, reduceCtorEq, Bool.not_true, Bool.not_false, true_and, and_true, and_false, false_and, or_true, true_or, or_false, false_or, not_true_eq_false, not_false_eq_true] <;> exact hM, hF⟩
theorem ms_refuses  (j : Nat) {L : Nat} (hL : M.1 35 = nI L) (hL4 : L < 400) (hj : j < 400) : MSp l G x am mX12_refuses [.int (nI j)] M none (rfsM M j) := by
  refine MSp.intro (lv := [_, _]) (by decide) rfl (Nat.le_of_ble_eq_true rfl) (fun h0 h hM hF => ?_)
  refine wp_aload_n (pc := 0) dX12_refuses_0 rfl rfl ?_
  refine wp_dup (pc := 1) dX12_refuses_1 rfl ?_
  refine wp_get (pc := 2) dX12_refuses_2 fl_X12_251_13 hM.1 rfl ?_
  refine wp_iconst (pc := 5) (v := 1) dX12_refuses_5 (by decide) ?_
  refine wp_iadd (pc := 6) dX12_refuses_6 ?_
  refine mp_putS (pc := 7) dX12_refuses_7 fl_X12_251_13 hM hF rfl rfl (by decide) rfl (fun h hM hF => ?_)
  refine wp_aload_n (pc := 10) dX12_refuses_10 rfl rfl ?_
  refine wp_iload_n (pc := 11) dX12_refuses_11 rfl rfl ?_
  refine wp_iconst (pc := 12) (v := 5) dX12_refuses_12 (by decide) ?_
  refine mp_call (pc := 13) [_, _] dX12_refuses_13 rfl cv_X12_254_13 rfl ⟨(Nat.le_of_ble_eq_true rfl), (Nat.le_of_ble_eq_true rfl)⟩ (Nat.le_of_ble_eq_true rfl) ⟨rfl, rfl⟩ (ms_answers l G x am _ _ _ (by exact hL) (by omega) (by omega)) hM hF (fun h hM hF => ?_)
  refine wp_pop (pc := 16) dX12_refuses_16 rfl ?_
  exact wp_vret (pc := 17) dX12_refuses_17 rfl ⟨rfl, hM, hF⟩
theorem ms_isLate  (j : Nat) {L : Nat} (hL : M.1 35 = nI L) (hL4 : L < 400) (hj : j < 400) : MSp l G x am mX12_isLate [.int (nI j)] M none (lteM M j) := by
  refine MSp.intro (lv := [_, _, _]) (by decide) rfl (Nat.le_of_ble_eq_true rfl) (fun h0 h hM hF => ?_)
  have hLx : nx (M.1 35) = L := by rw [hL]; exact nx_nI (by omega)
  refine wp_aload_n (pc := 0) dX12_isLate_0 rfl rfl ?_
  refine wp_dup (pc := 1) dX12_isLate_1 rfl ?_
  refine wp_get (pc := 2) dX12_isLate_2 fl_X12_257_13 hM.1 rfl ?_
  refine wp_iconst (pc := 5) (v := 1) dX12_isLate_5 (by decide) ?_
  refine wp_iadd (pc := 6) dX12_isLate_6 ?_
  refine mp_putS (pc := 7) dX12_isLate_7 fl_X12_257_13 hM hF rfl rfl (by decide) rfl (fun h hM hF => ?_)
  refine wp_aload_n (pc := 10) dX12_isLate_10 rfl rfl ?_
  refine wp_iload_n (pc := 11) dX12_isLate_11 rfl rfl ?_
  refine wp_bipush (pc := 12) (v := 7) dX12_isLate_12 (by decide) ?_
  refine mp_call (pc := 14) [_, _] dX12_isLate_14 rfl cv_X12_254_13 rfl ⟨(Nat.le_of_ble_eq_true rfl), (Nat.le_of_ble_eq_true rfl)⟩ (Nat.le_of_ble_eq_true rfl) ⟨rfl, rfl⟩ (ms_answers l G x am _ _ _ (by exact hL) (by omega) (by omega)) hM hF (fun h hM hF => ?_)
  refine wp_istore_n (pc := 17) (lv' := [_, _, _]) dX12_isLate_17 rfl (Nat.le_of_ble_eq_true rfl) rfl rfl ?_
  refine wp_aload_n (pc := 18) dX12_isLate_18 rfl rfl ?_
  refine wp_get (pc := 19) dX12_isLate_19 fl_X12_124_13 hM.1 rfl ?_
  refine wp_iload_n (pc := 22) dX12_isLate_22 rfl rfl ?_
  refine wp_aload_n (pc := 23) dX12_isLate_23 rfl rfl ?_
  refine wp_get (pc := 24) dX12_isLate_24 fl_X12_124_13 hM.1 rfl ?_
  refine wp_iload_n (pc := 27) dX12_isLate_27 rfl rfl ?_
  refine wp_lald (pc := 28) (i := j) dX12_isLate_28 (hM.j 44 rfl) ⟨rfl, by omega, by decide⟩ ?_
  refine mp_last (pc := 29) (k := 44) (i := L) dX12_isLate_29 hM hF rfl ⟨rfl, by omega, by decide⟩ (fun h hM hF => ?_)
  exact wp_vret (pc := 30) dX12_isLate_30 rfl ⟨rfl, by unfold lteM; rw [hLx]; exact hM, hF⟩
theorem ms_grants  (j : Nat) (a : Nat) {t : Nat} (ht : t < 20) (ha : a < 20) (htj : M.2.1 39 j = nI t) {L : Nat} (hL : M.1 35 = nI L) (hL4 : L < 400) (hj : j < 400) : MSp l G x am mX12_grants [.int (nI j), .int (nI a)] M none (grsM M j t a) := by
  refine MSp.intro (lv := [_, _, _, _, _]) (by decide) rfl (Nat.le_of_ble_eq_true rfl) (fun h0 h hM hF => ?_)
  have hLx : nx (M.1 35) = L := by rw [hL]; exact nx_nI (by omega)
  refine wp_bipush (pc := 0) (v := 20) dX12_grants_0 (by decide) ?_
  refine wp_aload_n (pc := 2) dX12_grants_2 rfl rfl ?_
  refine wp_get (pc := 3) dX12_grants_3 fl_X12_109_13 hM.1 rfl ?_
  refine wp_iload_n (pc := 6) dX12_grants_6 rfl rfl ?_
  refine wp_iald (pc := 7) (i := j) dX12_grants_7 (hM.i 39 rfl) ⟨rfl, by omega, by decide⟩ ?_
  rw [htj]
  refine wp_imul (pc := 8) dX12_grants_8 ?_
  refine wp_iload_n (pc := 9) dX12_grants_9 rfl rfl ?_
  refine wp_iadd (pc := 10) dX12_grants_10 ?_
  refine wp_istore_n (pc := 11) (lv' := [_, _, _, _, _]) dX12_grants_11 rfl (Nat.le_of_ble_eq_true rfl) rfl rfl ?_
  refine wp_aload_n (pc := 12) dX12_grants_12 rfl rfl ?_
  refine wp_iload_n (pc := 13) dX12_grants_13 rfl rfl ?_
  refine wp_iconst (pc := 14) (v := 4) dX12_grants_14 (by decide) ?_
  refine mp_call (pc := 15) [_, _] dX12_grants_15 rfl cv_X12_254_13 rfl ⟨(Nat.le_of_ble_eq_true rfl), (Nat.le_of_ble_eq_true rfl)⟩ (Nat.le_of_ble_eq_true rfl) ⟨rfl, rfl⟩ (ms_answers l G x am _ _ _ (by exact hL) (by omega) (by omega)) hM hF (fun h hM hF => ?_)
  refine wp_istore (pc := 18) (lv' := [_, _, _, _, _]) dX12_grants_18 (Nat.le_of_ble_eq_true rfl) rfl rfl ?_
  refine wp_aload_n (pc := 20) dX12_grants_20 rfl rfl ?_
  refine wp_get (pc := 21) dX12_grants_21 fl_X12_112_13 hM.1 rfl ?_
  refine wp_iload (pc := 24) dX12_grants_24 rfl ?_
  refine wp_aload_n (pc := 26) dX12_grants_26 rfl rfl ?_
  refine wp_get (pc := 27) dX12_grants_27 fl_X12_66_13 hM.1 rfl ?_
  refine wp_iload_n (pc := 30) dX12_grants_30 rfl rfl ?_
  refine wp_iald (pc := 31) (i := ((20 * t) + a)) dX12_grants_31 (hM.i 23 rfl) ⟨by simp only [nl1, nl5, nl8, nl20, pk_mul, nI_add], by omega, by decide⟩ ?_
  refine mp_iast (pc := 32) (k := 40) (i := L) dX12_grants_32 hM hF rfl ⟨rfl, by omega, by decide⟩ (fun h hM hF => ?_)
  refine wp_aload_n (pc := 33) dX12_grants_33 rfl rfl ?_
  refine wp_get (pc := 34) dX12_grants_34 fl_X12_115_13 hM.1 rfl ?_
  refine wp_iload (pc := 37) dX12_grants_37 rfl ?_
  refine wp_aload_n (pc := 39) dX12_grants_39 rfl rfl ?_
  refine wp_get (pc := 40) dX12_grants_40 fl_X12_69_13 hM.1 rfl ?_
  refine wp_iload_n (pc := 43) dX12_grants_43 rfl rfl ?_
  refine wp_iald (pc := 44) (i := ((20 * t) + a)) dX12_grants_44 (hM.i 24 rfl) ⟨by simp only [nl1, nl5, nl8, nl20, pk_mul, nI_add], by omega, by decide⟩ ?_
  refine mp_iast (pc := 45) (k := 41) (i := L) dX12_grants_45 hM hF rfl ⟨rfl, by omega, by decide⟩ (fun h hM hF => ?_)
  refine wp_aload_n (pc := 46) dX12_grants_46 rfl rfl ?_
  refine wp_get (pc := 47) dX12_grants_47 fl_X12_124_13 hM.1 rfl ?_
  refine wp_iload (pc := 50) dX12_grants_50 rfl ?_
  refine wp_aload_n (pc := 52) dX12_grants_52 rfl rfl ?_
  refine wp_get (pc := 53) dX12_grants_53 fl_X12_72_13 hM.1 rfl ?_
  refine wp_iload_n (pc := 56) dX12_grants_56 rfl rfl ?_
  refine wp_lald (pc := 57) (i := ((20 * t) + a)) dX12_grants_57 (hM.j 25 rfl) ⟨by simp only [nl1, nl5, nl8, nl20, pk_mul, nI_add], by omega, by decide⟩ ?_
  refine mp_last (pc := 58) (k := 44) (i := L) dX12_grants_58 hM hF rfl ⟨rfl, by omega, by decide⟩ (fun h hM hF => ?_)
  exact wp_vret (pc := 59) dX12_grants_59 rfl ⟨rfl, by unfold grsM; rw [hLx]; exact hM, hF⟩
end M5
