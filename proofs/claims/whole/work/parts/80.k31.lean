/-! ===== the class: sums, forge ===== -/
theorem twom (n : Int32) : n + n = 2 * n := by rw [show (2 : Int32) = 1 + 1 from rfl, Int32.add_mul, Int32.one_mul]
theorem n100 {n : Int32} (h : fin n (-100) 100 = true) : ∃ a, a < 201 ∧ n = nI a - 100 := by
  obtain ⟨h1, h2⟩ := fin_t h
  rw [Int32.le_iff_toInt_le] at h1 h2
  have e1 : (-100 : Int32).toInt = -100 := rfl
  have e2 : (100 : Int32).toInt = 100 := rfl
  rw [e1] at h1
  rw [e2] at h2
  refine ⟨(n.toInt + 100).toNat, by omega, ?_⟩
  apply Int32.toInt_inj.mp
  rw [Int32.toInt_sub, nI_toInt (by omega), e2]
  have e3 : (((n.toInt + 100).toNat : Nat) : Int) = n.toInt + 100 := Int.toNat_of_nonneg (by omega)
  rw [e3, show n.toInt + 100 - 100 = n.toInt by omega]
  exact (Int.bmod_eq_of_le (by omega) (by omega)).symm
theorem flm_a : ∀ a, a < 201 → (fmd (nI a - 100) 5 = (if 0 ≤ (nI a - 100) - (nI a - 100) / 5 * 5 then (nI a - 100) - (nI a - 100) / 5 * 5 else (nI a - 100) - (nI a - 100) / 5 * 5 + 5)) ∧ (fmd (nI a - 100) 5 = 0 ∨ fmd (nI a - 100) 5 = 1 ∨ fmd (nI a - 100) 5 = 2 ∨ fmd (nI a - 100) 5 = 3 ∨ fmd (nI a - 100) 5 = 4) := by decide +kernel
theorem an1a : ∀ a, a < 201 → ((nI a - 100) &&& 1 = 0 ↔ (nI a - 100) - (nI a - 100) / 2 * 2 = 0) := by decide +kernel
theorem flm_5 {n : Int32} (h : fin n (-100) 100 = true) : (fmd n 5 = (if 0 ≤ n - n / 5 * 5 then n - n / 5 * 5 else n - n / 5 * 5 + 5)) ∧ (fmd n 5 = 0 ∨ fmd n 5 = 1 ∨ fmd n 5 = 2 ∨ fmd n 5 = 3 ∨ fmd n 5 = 4) := by
  obtain ⟨a, ha, rfl⟩ := n100 h; exact flm_a a ha
theorem an1 {n : Int32} (h : fin n (-100) 100 = true) : (n &&& 1 = 0 ↔ n - n / 2 * 2 = 0) := by
  obtain ⟨a, ha, rfl⟩ := n100 h; exact an1a a ha
theorem lak_eq {M : MS} {y : Nat} {n k : Int32} (hk : k = (if 0 ≤ n - n / 5 * 5 then n - n / 5 * 5 else n - n / 5 * 5 + 5)) : f_asThing M y n = lakF (sS M 58 0) y k := by
  unfold lakF f_asThing; rw [sS_sS, sS_sS, hk]; rfl
theorem tol_eq {M : MS} {y : Nat} {n b : Int32} (hb : b = (if n - n / 2 * 2 = 0 then (1 : Int32) else 0)) : f_asLetter M y n = tolF (sS M 58 0) y b := by
  unfold tolF f_asLetter; rw [sS_sS, sS_sS, hb]; rfl
theorem arw_eq (M : MS) (y : Nat) (what n : Int32) : f_asRow M y what n = arwF (sS M 58 0) y what n := by
  unfold arwF f_asRow; rw [sS_sS, sS_sS, sS_sS]; rfl
theorem cpS_c (M : MS) (y : Nat) (v : Int32) : ∀ i, cpS (sS M 58 v) y i = cpS M y i
  | 0 => rfl
  | i + 1 => by show cpS (sS M 58 v) y i + _ = cpS M y i + _; rw [cpS_c M y v i]; rfl
theorem soc_eq (M : MS) (y : Nat) (n : Int32) : f_copied M y n = socF (sS M 58 0) y n := by
  unfold socF f_copied; rw [sS_sS, sS_sS, sS_sS, cpS_c]; rfl
theorem las_eq (M : MS) (y : Nat) : f_laid M y = lasF (sS M 58 0) y := by
  unfold lasF f_laid; rw [sS_sS]; rfl
section K31
variable (l : Launch) (G : WG) {hp h : Hp} {A : AD} {M : MS}
theorem c_soc {y : Nat} (n : Int32) (hn : n ≤ 100) (hR : RH G hp A M h) (hy : y < 6) (h54 : t54 M y) (ht1 : M.2.1 54 y = 1 → nx (M.2.1 55 y) < nx (M.1 11)) (ht2 : M.2.1 54 y = 2 → nx (M.2.1 55 y) < nx (M.1 35)) (hz : M.2.1 56 y = nI (nx (M.2.1 56 y))) (hz2 : nx (M.2.1 56 y) ≤ 20) (h01 : M.2.1 54 y = 4 → ∀ q, q < nx (M.2.1 56 y) → M.2.2 57 (20 * y + q) = 0 ∨ M.2.2 57 (20 * y + q) = 1) : SpV l G mX11_sumOfCopied (.ref (A.1 0 0) :: .ref (A.1 16 y) :: [.int n]) h (fun r h' => r = .int (socF M y n).1 ∧ RH G hp A (socF M y n).2 h') := by
  refine Sp.intro (lv := [_, _, _, _, _, _, _]) (by decide) rfl (Nat.le_of_ble_eq_true rfl) ?_
  refine wp_widen (rc' := 0) (rs' := 0) (Nat.le_refl _) (Nat.le_refl _) ?_
  have h549 := h54
  rcases h54 with e | e | e | e | e
  · refine wp_aload_n (pc := 0) dX11_sumOfCopied_0 rfl rfl ?_
    refine wp_get (pc := 1) dX11_sumOfCopied_1 fl_X11_345_9 (hR.tr0 hy e) rfl ?_
    refine wp_astore_nN (pc := 4) (lv' := [_, _, _, _, _, _, _]) dX11_sumOfCopied_4 rfl (Nat.le_of_ble_eq_true rfl) rfl rfl ?_
    refine wp_aload_nN (pc := 5) dX11_sumOfCopied_5 rfl rfl ?_
    refine wp_ifnonnullN (pc := 6) dX11_sumOfCopied_6 ?_
    refine wp_aload_n (pc := 9) dX11_sumOfCopied_9 rfl rfl ?_
    refine wp_aload_n (pc := 10) dX11_sumOfCopied_10 rfl rfl ?_
    refine wc_VV (pc := 11) (μ2 := mX11_refuseSort) (rc := 0) (rs := 0) [_] dX11_sumOfCopied_11 rfl hR.bd rfl cv_X11_517_12 rfl ⟨(Nat.le_of_ble_eq_true rfl), (Nat.le_of_ble_eq_true rfl)⟩ (Nat.le_of_ble_eq_true rfl) (c_refuseSort l G hR hy h549) (fun r h q => ?_)
    obtain ⟨rfl, hR⟩ := q
    exact wp_iret (pc := 14) dX11_sumOfCopied_14 rfl ⟨_, rfl, by simp only [socF, e, (by decide : ((0 : Int32) = 1) = False), (by decide : ((0 : Int32) = 2) = False), (by decide : ((0 : Int32) = 3) = False), (by decide : ((0 : Int32) = 4) = False), if_true, if_false, Bool.true_eq_false, Bool.false_eq_true, reduceIte, reduceCtorEq, Bool.not_true, Bool.not_false, true_and, and_true, and_false, false_and, or_true, true_or, or_false, false_or, not_true_eq_false, not_false_eq_true] <;> rfl, by simp only [socF, e, (by decide : ((0 : Int32) = 1) = False), (by decide : ((0 : Int32) = 2) = False), (by decide : ((0 : Int32) = 3) = False), (by decide : ((0 : Int32) = 4) = False), if_true, if_false, Bool.true_eq_false, Bool.false_eq_true, reduceIte, reduceCtorEq, Bool.not_true, Bool.not_false, true_and, and_true, and_false, false_and, or_true, true_or, or_false, false_or, not_true_eq_false, not_false_eq_true] <;> first | exact hR | (simp only [e, (by decide : ((0 : Int32) = 1) = False), (by decide : ((0 : Int32) = 2) = False), (by decide : ((0 : Int32) = 3) = False), (by decide : ((0 : Int32) = 4) = False), if_true, if_false, Bool.true_eq_false, Bool.false_eq_true, reduceIte, reduceCtorEq, Bool.not_true, Bool.not_false, true_and, and_true, and_false, false_and, or_true, true_or, or_false, false_or, not_true_eq_false, not_false_eq_true] at hR; exact hR)⟩
  · refine wp_aload_n (pc := 0) dX11_sumOfCopied_0 rfl rfl ?_
    refine wp_get (pc := 1) dX11_sumOfCopied_1 fl_X11_345_9 (hR.tr1 hy e) rfl ?_
    refine wp_astore_nN (pc := 4) (lv' := [_, _, _, _, _, _, _]) dX11_sumOfCopied_4 rfl (Nat.le_of_ble_eq_true rfl) rfl rfl ?_
    refine wp_aload_nN (pc := 5) dX11_sumOfCopied_5 rfl rfl ?_
    refine wp_ifnonnullN (pc := 6) dX11_sumOfCopied_6 ?_
    refine wp_aload_n (pc := 9) dX11_sumOfCopied_9 rfl rfl ?_
    refine wp_aload_n (pc := 10) dX11_sumOfCopied_10 rfl rfl ?_
    refine wc_VV (pc := 11) (μ2 := mX11_refuseSort) (rc := 0) (rs := 0) [_] dX11_sumOfCopied_11 rfl hR.bd rfl cv_X11_517_12 rfl ⟨(Nat.le_of_ble_eq_true rfl), (Nat.le_of_ble_eq_true rfl)⟩ (Nat.le_of_ble_eq_true rfl) (c_refuseSort l G hR hy h549) (fun r h q => ?_)
    obtain ⟨rfl, hR⟩ := q
    exact wp_iret (pc := 14) dX11_sumOfCopied_14 rfl ⟨_, rfl, by simp only [socF, e, (by decide : ((1 : Int32) = 0) = False), (by decide : ((1 : Int32) = 2) = False), (by decide : ((1 : Int32) = 3) = False), (by decide : ((1 : Int32) = 4) = False), if_true, if_false, Bool.true_eq_false, Bool.false_eq_true, reduceIte, reduceCtorEq, Bool.not_true, Bool.not_false, true_and, and_true, and_false, false_and, or_true, true_or, or_false, false_or, not_true_eq_false, not_false_eq_true] <;> rfl, by simp only [socF, e, (by decide : ((1 : Int32) = 0) = False), (by decide : ((1 : Int32) = 2) = False), (by decide : ((1 : Int32) = 3) = False), (by decide : ((1 : Int32) = 4) = False), if_true, if_false, Bool.true_eq_false, Bool.false_eq_true, reduceIte, reduceCtorEq, Bool.not_true, Bool.not_false, true_and, and_true, and_false, false_and, or_true, true_or, or_false, false_or, not_true_eq_false, not_false_eq_true] <;> first | exact hR | (simp only [e, (by decide : ((1 : Int32) = 0) = False), (by decide : ((1 : Int32) = 2) = False), (by decide : ((1 : Int32) = 3) = False), (by decide : ((1 : Int32) = 4) = False), if_true, if_false, Bool.true_eq_false, Bool.false_eq_true, reduceIte, reduceCtorEq, Bool.not_true, Bool.not_false, true_and, and_true, and_false, false_and, or_true, true_or, or_false, false_or, not_true_eq_false, not_false_eq_true] at hR; exact hR)⟩
  · refine wp_aload_n (pc := 0) dX11_sumOfCopied_0 rfl rfl ?_
    refine wp_get (pc := 1) dX11_sumOfCopied_1 fl_X11_345_9 (hR.tr2 hy e) rfl ?_
    refine wp_astore_nN (pc := 4) (lv' := [_, _, _, _, _, _, _]) dX11_sumOfCopied_4 rfl (Nat.le_of_ble_eq_true rfl) rfl rfl ?_
    refine wp_aload_nN (pc := 5) dX11_sumOfCopied_5 rfl rfl ?_
    refine wp_ifnonnullN (pc := 6) dX11_sumOfCopied_6 ?_
    refine wp_aload_n (pc := 9) dX11_sumOfCopied_9 rfl rfl ?_
    refine wp_aload_n (pc := 10) dX11_sumOfCopied_10 rfl rfl ?_
    refine wc_VV (pc := 11) (μ2 := mX11_refuseSort) (rc := 0) (rs := 0) [_] dX11_sumOfCopied_11 rfl hR.bd rfl cv_X11_517_12 rfl ⟨(Nat.le_of_ble_eq_true rfl), (Nat.le_of_ble_eq_true rfl)⟩ (Nat.le_of_ble_eq_true rfl) (c_refuseSort l G hR hy h549) (fun r h q => ?_)
    obtain ⟨rfl, hR⟩ := q
    exact wp_iret (pc := 14) dX11_sumOfCopied_14 rfl ⟨_, rfl, by simp only [socF, e, (by decide : ((2 : Int32) = 0) = False), (by decide : ((2 : Int32) = 1) = False), (by decide : ((2 : Int32) = 3) = False), (by decide : ((2 : Int32) = 4) = False), if_true, if_false, Bool.true_eq_false, Bool.false_eq_true, reduceIte, reduceCtorEq, Bool.not_true, Bool.not_false, true_and, and_true, and_false, false_and, or_true, true_or, or_false, false_or, not_true_eq_false, not_false_eq_true] <;> rfl, by simp only [socF, e, (by decide : ((2 : Int32) = 0) = False), (by decide : ((2 : Int32) = 1) = False), (by decide : ((2 : Int32) = 3) = False), (by decide : ((2 : Int32) = 4) = False), if_true, if_false, Bool.true_eq_false, Bool.false_eq_true, reduceIte, reduceCtorEq, Bool.not_true, Bool.not_false, true_and, and_true, and_false, false_and, or_true, true_or, or_false, false_or, not_true_eq_false, not_false_eq_true] <;> first | exact hR | (simp only [e, (by decide : ((2 : Int32) = 0) = False), (by decide : ((2 : Int32) = 1) = False), (by decide : ((2 : Int32) = 3) = False), (by decide : ((2 : Int32) = 4) = False), if_true, if_false, Bool.true_eq_false, Bool.false_eq_true, reduceIte, reduceCtorEq, Bool.not_true, Bool.not_false, true_and, and_true, and_false, false_and, or_true, true_or, or_false, false_or, not_true_eq_false, not_false_eq_true] at hR; exact hR)⟩
  · refine wp_aload_n (pc := 0) dX11_sumOfCopied_0 rfl rfl ?_
    refine wp_get (pc := 1) dX11_sumOfCopied_1 fl_X11_345_9 (hR.tr3 hy e) rfl ?_
    refine wp_astore_n (pc := 4) (lv' := [_, _, _, _, _, _, _]) dX11_sumOfCopied_4 rfl (Nat.le_of_ble_eq_true rfl) rfl rfl ?_
    refine wp_aload_n (pc := 5) dX11_sumOfCopied_5 rfl rfl ?_
    refine wp_ifnonnullR (pc := 6) (tgt := 15) dX11_sumOfCopied_6 (by decide) ?_
    refine wp_iload_n (pc := 15) dX11_sumOfCopied_15 rfl rfl ?_
    refine wp_if_lt (pc := 16) (tgt := 34) dX11_sumOfCopied_16 (by decide) (fun c16 => ?_) (fun c16 => ?_)
    · skip
      refine wp_aload_n (pc := 34) dX11_sumOfCopied_34 rfl rfl ?_
      refine wp_bipush (pc := 35) (v := 12) dX11_sumOfCopied_35 (by decide) ?_
      refine wc_VV (pc := 37) (μ2 := mX11_refuse) (rc := 0) (rs := 0) [_] dX11_sumOfCopied_37 rfl hR.bd rfl cv_X11_328_12 rfl ⟨(Nat.le_of_ble_eq_true rfl), (Nat.le_of_ble_eq_true rfl)⟩ (Nat.le_of_ble_eq_true rfl) (c_refuse l G _ hR) (fun r h q => ?_)
      obtain ⟨rfl, hR⟩ := q
      exact wp_iret (pc := 40) dX11_sumOfCopied_40 rfl ⟨_, rfl, by unfold socF; rw [if_neg (by rw [e]; decide), if_pos e, if_pos c16], by unfold socF; rw [if_neg (by rw [e]; decide), if_pos e, if_pos c16]; exact hR⟩
    · skip
      refine wp_iconst (pc := 19) (v := 1) dX11_sumOfCopied_19 (by decide) ?_
      refine wp_iload_n (pc := 20) dX11_sumOfCopied_20 rfl rfl ?_
      refine wp_iadd (pc := 21) dX11_sumOfCopied_21 ?_
      refine wp_aload_n (pc := 22) dX11_sumOfCopied_22 rfl rfl ?_
      refine wp_alen (k := 1) (pc := 23) (by decide) dX11_sumOfCopied_23 (hR.row3 hy e) ?_
      refine wp_icmp_gt (pc := 24) (tgt := 34) dX11_sumOfCopied_24 (by decide) (fun c24 => ?_) (fun c24 => ?_)
      · skip
        refine wp_aload_n (pc := 34) dX11_sumOfCopied_34 rfl rfl ?_
        refine wp_bipush (pc := 35) (v := 12) dX11_sumOfCopied_35 (by decide) ?_
        refine wc_VV (pc := 37) (μ2 := mX11_refuse) (rc := 0) (rs := 0) [_] dX11_sumOfCopied_37 rfl hR.bd rfl cv_X11_328_12 rfl ⟨(Nat.le_of_ble_eq_true rfl), (Nat.le_of_ble_eq_true rfl)⟩ (Nat.le_of_ble_eq_true rfl) (c_refuse l G _ hR) (fun r h q => ?_)
        obtain ⟨rfl, hR⟩ := q
        exact wp_iret (pc := 40) dX11_sumOfCopied_40 rfl ⟨_, rfl, by unfold socF; rw [if_neg (by rw [e]; decide), if_pos e, if_neg c16, if_pos (by rw [hz]; exact c24)], by unfold socF; rw [if_neg (by rw [e]; decide), if_pos e, if_neg c16, if_pos (by rw [hz]; exact c24)]; exact hR⟩
      · skip
        refine wp_iload_n (pc := 27) dX11_sumOfCopied_27 rfl rfl ?_
        refine wp_iload_n (pc := 28) dX11_sumOfCopied_28 rfl rfl ?_
        refine wp_iadd (pc := 29) dX11_sumOfCopied_29 ?_
        refine wp_iconst (pc := 30) (v := 5) dX11_sumOfCopied_30 (by decide) ?_
        refine wp_icmp_le (pc := 31) (tgt := 41) dX11_sumOfCopied_31 (by decide) (fun c31 => ?_) (fun c31 => ?_)
        · skip
          refine wp_lconst (pc := 41) (v := 0) dX11_sumOfCopied_41 (by decide) ?_
          refine wp_lstore (pc := 42) (lv' := [_, _, _, _, _, _, _]) dX11_sumOfCopied_42 (Nat.le_of_ble_eq_true rfl) rfl rfl ?_
          refine wp_iconst (pc := 44) (v := 1) dX11_sumOfCopied_44 (by decide) ?_
          refine wp_istore (pc := 45) (lv' := [_, _, _, _, _, _, _]) dX11_sumOfCopied_45 (Nat.le_of_ble_eq_true rfl) rfl rfl ?_
          obtain ⟨m, hm, rfl⟩ := cp_n c16 hn c24 hz2
          have nm : nx (nI m) = m := nx_nI (by omega)
          have hf : socF M y (nI m) = ((cpS M y m).toInt32, M) := by unfold socF; rw [if_neg (by rw [e]; decide), if_pos e, if_neg c16, if_neg (fun z => c24 (by rw [← hz]; exact z)), if_pos (by rw [← twom]; exact c31), nm]
          have loop : ∀ q, q ≤ m → wp l G mX11_sumOfCopied (zM G mX11_sumOfCopied (fun w9 h' => ∃ r, w9 = some r ∧ (fun r h' => r = .int (socF M y (nI m)).1 ∧ RH G hp A (socF M y (nI m)).2 h') r h')) 47 [some (.ref (A.1 0 0)), some (.ref (A.1 16 y)), some (.int (nI m)), some (.ref (A.1 17 y)), some (.long (cpS M y q)), none, some (.int (nI (q + 1)))] [] h 0 0 := by
            refine loopU _ m (fun q hq ih => ?_) ?_
            · refine wp_iload (pc := 47) dX11_sumOfCopied_47 rfl ?_
              refine wp_iload_n (pc := 49) dX11_sumOfCopied_49 rfl rfl ?_
              refine wp_icmp_gt (pc := 50) (tgt := 75) dX11_sumOfCopied_50 (by decide) (fun z => absurd z (nI_nlt (by omega) (by omega))) (fun _ => ?_)
              refine wp_iload (pc := 53) dX11_sumOfCopied_53 rfl ?_
              refine wp_aload_n (pc := 55) dX11_sumOfCopied_55 rfl rfl ?_
              refine wp_alen (k := 1) (pc := 56) (by decide) dX11_sumOfCopied_56 (hR.row3 hy e) ?_
              refine wp_icmp_ge (pc := 57) (tgt := 75) dX11_sumOfCopied_57 (by decide) (fun z => absurd z (nI_ge (by omega) (by omega))) (fun _ => ?_)
              refine wp_lload (pc := 60) dX11_sumOfCopied_60 rfl ?_
              refine wp_aload_n (pc := 62) dX11_sumOfCopied_62 rfl rfl ?_
              refine wp_iload (pc := 63) dX11_sumOfCopied_63 rfl ?_
              refine wp_lald (pc := 65) (i := q + 1) dX11_sumOfCopied_65 (hR.row3 hy e) ⟨rfl, by omega, by omega⟩ ?_
              rw [if_pos (show q + 1 < nx (M.2.1 56 y) by omega), show 20 * y + (q + 1) = 20 * y + 1 + q by omega]
              refine wp_ladd (pc := 66) dX11_sumOfCopied_66 ?_
              refine wp_lstore (pc := 67) (lv' := [_, _, _, _, _, _, _]) dX11_sumOfCopied_67 (Nat.le_of_ble_eq_true rfl) rfl rfl ?_
              refine wp_iinc (pc := 69) (v := _ + 1) (lv' := [_, _, _, _, _, _, _]) dX11_sumOfCopied_69 rfl rfl rfl rfl ?_
              refine wp_goto (pc := 72) (tgt := 47) dX11_sumOfCopied_72 (by decide) ?_
              exact wp_lv ih (by simp [cpS, nI_1])
            · refine wp_iload (pc := 47) dX11_sumOfCopied_47 rfl ?_
              refine wp_iload_n (pc := 49) dX11_sumOfCopied_49 rfl rfl ?_
              refine wp_icmp_gt (pc := 50) (tgt := 75) dX11_sumOfCopied_50 (by decide) (fun _ => ?_) (fun z => absurd (nI_lt (by omega) (by omega)) z)
              refine wp_lload (pc := 75) dX11_sumOfCopied_75 rfl ?_
              refine wp_l2i (pc := 77) dX11_sumOfCopied_77 ?_
              exact wp_iret (pc := 78) dX11_sumOfCopied_78 rfl ⟨_, rfl, by rw [hf], by rw [hf]; exact hR⟩
          exact wp_lv (loop 0 (Nat.zero_le _)) (by simp [cpS]; rfl)
        · skip
          refine wp_aload_n (pc := 34) dX11_sumOfCopied_34 rfl rfl ?_
          refine wp_bipush (pc := 35) (v := 12) dX11_sumOfCopied_35 (by decide) ?_
          refine wc_VV (pc := 37) (μ2 := mX11_refuse) (rc := 0) (rs := 0) [_] dX11_sumOfCopied_37 rfl hR.bd rfl cv_X11_328_12 rfl ⟨(Nat.le_of_ble_eq_true rfl), (Nat.le_of_ble_eq_true rfl)⟩ (Nat.le_of_ble_eq_true rfl) (c_refuse l G _ hR) (fun r h q => ?_)
          obtain ⟨rfl, hR⟩ := q
          exact wp_iret (pc := 40) dX11_sumOfCopied_40 rfl ⟨_, rfl, by unfold socF; rw [if_neg (by rw [e]; decide), if_pos e, if_neg c16, if_neg (fun z => c24 (by rw [← hz]; exact z)), if_neg (fun z => c31 (by rw [twom]; exact z))], by unfold socF; rw [if_neg (by rw [e]; decide), if_pos e, if_neg c16, if_neg (fun z => c24 (by rw [← hz]; exact z)), if_neg (fun z => c31 (by rw [twom]; exact z))]; exact hR⟩
  · refine wp_aload_n (pc := 0) dX11_sumOfCopied_0 rfl rfl ?_
    refine wp_get (pc := 1) dX11_sumOfCopied_1 fl_X11_345_9 (hR.tr4 hy e) rfl ?_
    refine wp_astore_nN (pc := 4) (lv' := [_, _, _, _, _, _, _]) dX11_sumOfCopied_4 rfl (Nat.le_of_ble_eq_true rfl) rfl rfl ?_
    refine wp_aload_nN (pc := 5) dX11_sumOfCopied_5 rfl rfl ?_
    refine wp_ifnonnullN (pc := 6) dX11_sumOfCopied_6 ?_
    refine wp_aload_n (pc := 9) dX11_sumOfCopied_9 rfl rfl ?_
    refine wp_aload_n (pc := 10) dX11_sumOfCopied_10 rfl rfl ?_
    refine wc_VV (pc := 11) (μ2 := mX11_refuseSort) (rc := 0) (rs := 0) [_] dX11_sumOfCopied_11 rfl hR.bd rfl cv_X11_517_12 rfl ⟨(Nat.le_of_ble_eq_true rfl), (Nat.le_of_ble_eq_true rfl)⟩ (Nat.le_of_ble_eq_true rfl) (c_refuseSort l G hR hy h549) (fun r h q => ?_)
    obtain ⟨rfl, hR⟩ := q
    exact wp_iret (pc := 14) dX11_sumOfCopied_14 rfl ⟨_, rfl, by simp only [socF, e, (by decide : ((4 : Int32) = 0) = False), (by decide : ((4 : Int32) = 1) = False), (by decide : ((4 : Int32) = 2) = False), (by decide : ((4 : Int32) = 3) = False), if_true, if_false, Bool.true_eq_false, Bool.false_eq_true, reduceIte, reduceCtorEq, Bool.not_true, Bool.not_false, true_and, and_true, and_false, false_and, or_true, true_or, or_false, false_or, not_true_eq_false, not_false_eq_true] <;> rfl, by simp only [socF, e, (by decide : ((4 : Int32) = 0) = False), (by decide : ((4 : Int32) = 1) = False), (by decide : ((4 : Int32) = 2) = False), (by decide : ((4 : Int32) = 3) = False), if_true, if_false, Bool.true_eq_false, Bool.false_eq_true, reduceIte, reduceCtorEq, Bool.not_true, Bool.not_false, true_and, and_true, and_false, false_and, or_true, true_or, or_false, false_or, not_true_eq_false, not_false_eq_true] <;> first | exact hR | (simp only [e, (by decide : ((4 : Int32) = 0) = False), (by decide : ((4 : Int32) = 1) = False), (by decide : ((4 : Int32) = 2) = False), (by decide : ((4 : Int32) = 3) = False), if_true, if_false, Bool.true_eq_false, Bool.false_eq_true, reduceIte, reduceCtorEq, Bool.not_true, Bool.not_false, true_and, and_true, and_false, false_and, or_true, true_or, or_false, false_or, not_true_eq_false, not_false_eq_true] at hR; exact hR)⟩
theorem fin5 (v : Int32) : fin v 0 5 = isIx v 6 := fin_ix v (n := 6) (by decide)
theorem forge_1 {M : MS} {tr what n : Int32} (h : isIx tr 6 = false ∨ fin n (-100) 100 = false ∨ fin what 0 8 = false) : f_forge M tr what n = (-1, sS M 58 1) := by
  unfold f_forge
  by_cases h1 : fin tr 0 5 = false
  · rw [if_pos h1]
  · rw [if_neg h1]
    by_cases h2 : fin what 0 8 = false
    · rw [if_pos h2]
    · rw [if_neg h2, if_pos ((h.resolve_left (by rw [← fin5]; exact h1)).resolve_right h2)]
theorem k_forge (tr what n : Int32) (hR : RH G hp A M h) (hb : bnd M) (hTr : ∀ y, y < 6 → t54 M y ∧ (M.2.1 54 y = 1 → nx (M.2.1 55 y) < nx (M.1 11)) ∧ (M.2.1 54 y = 2 → nx (M.2.1 55 y) < nx (M.1 35)) ∧ M.2.1 56 y = nI (nx (M.2.1 56 y)) ∧ nx (M.2.1 56 y) ≤ 20 ∧ (M.2.1 54 y = 4 → ∀ q, q < nx (M.2.1 56 y) → M.2.2 57 (20 * y + q) = 0 ∨ M.2.2 57 (20 * y + q) = 1)) : KS l G hp A mX11_forge [.int tr, .int what, .int n] M h (.int (f_forge M tr what n).1) ((f_forge M tr what n).2) := by
  refine Sp.intro (lv := [_, _, _, _, _]) (by decide) rfl (Nat.le_of_ble_eq_true rfl) ?_
  refine wp_widen (rc' := 0) (rs' := 0) (Nat.le_refl _) (Nat.le_refl _) ?_
  refine wp_aload_n (pc := 0) dX11_forge_0 rfl rfl ?_
  refine wp_iload_n (pc := 1) dX11_forge_1 rfl rfl ?_
  refine wc_VP (pc := 2) (μ2 := mX11_trayAt) (rc := 0) (rs := 0) [_] dX11_forge_2 rfl hR.bd rfl cv_X11_321_12 rfl ⟨(Nat.le_of_ble_eq_true rfl), (Nat.le_of_ble_eq_true rfl)⟩ (Nat.le_of_ble_eq_true rfl) (c_trayAt l G _ hR hb) ?_
  refine wp_astoreQ (pc := 5) (lv' := [_, _, _, _, _]) dX11_forge_5 (Nat.le_of_ble_eq_true rfl) rfl rfl ?_
  refine wp_aloadQ (pc := 7) dX11_forge_7 rfl ?_
  refine wp_ifnull (pc := 9) (tgt := 23) dX11_forge_9 (by decide) (fun c9 => ?_) (fun a9 c9 => ?_)
  · skip
    refine wp_aload_n (pc := 23) dX11_forge_23 rfl rfl ?_
    refine wp_iconst (pc := 24) (v := 1) dX11_forge_24 (by decide) ?_
    refine wc_VV (pc := 25) (μ2 := mX11_refuse) (rc := 0) (rs := 0) [_] dX11_forge_25 rfl hR.bd rfl cv_X11_328_12 rfl ⟨(Nat.le_of_ble_eq_true rfl), (Nat.le_of_ble_eq_true rfl)⟩ (Nat.le_of_ble_eq_true rfl) (c_refuse l G _ hR) (fun r h q => ?_)
    obtain ⟨rfl, hR⟩ := q
    exact wp_iret (pc := 28) dX11_forge_28 rfl ⟨_, rfl, by rw [forge_1 (Or.inl (oAt_n c9))], A, by rw [forge_1 (Or.inl (oAt_n c9))]; exact hR, ext.refl A M⟩
  · obtain ⟨y, hy, rfl, rfl⟩ := oAt_s c9 (by decide)
    rw [oAt_t hy (by decide)]
    have i1 := isIx_nI hy (show 6 < 2 ^ 31 by decide)
    have e1 : nx (nI y) = y := nx_nI (by omega)
    obtain ⟨h54, ht1, ht2, hz, hz2, h01⟩ := hTr y hy
    refine wp_iload_n (pc := 12) dX11_forge_12 rfl rfl ?_
    refine wp_bipush (pc := 13) (v := (-100)) dX11_forge_13 (by decide) ?_
    refine wp_bipush (pc := 15) (v := 100) dX11_forge_15 (by decide) ?_
    refine wc_SP (pc := 17) (μ2 := mX11_isWithin) (rc := 0) (rs := 0) [_, _, _] dX11_forge_17 rfl cs_X11_103 rfl ⟨(Nat.le_of_ble_eq_true rfl), (Nat.le_of_ble_eq_true rfl)⟩ (Nat.le_of_ble_eq_true rfl) (c_isWithin l G _ _ _ _) ?_
    refine wp_ifB_ne (pc := 20) (tgt := 29) dX11_forge_20 (by decide) (fun c20 => ?_) (fun c20 => ?_)
    · skip
      refine wp_aload_n (pc := 29) dX11_forge_29 rfl rfl ?_
      refine wp_iconst (pc := 30) (v := 0) dX11_forge_30 (by decide) ?_
      refine wp_putC (pc := 31) dX11_forge_31 fl_X11_67_12 hR.bd (Or.inl rfl) (Nat.le_of_ble_eq_true rfl) rfl rfl rfl (fun h hq1 hq2 => ?_)
      have hR := hR.k0 (M' := sS (M) 58 (0)) rfl rfl rfl rfl rfl rfl hq1 hq2
      refine wp_iload_n (pc := 34) dX11_forge_34 rfl rfl ?_
      refine wp_tsw_0_8 (pc := 35) dX11_forge_35 (t0 := 84) (t1 := 96) (t2 := 114) (t3 := 122) (t4 := 130) (t5 := 145) (t6 := 153) (t7 := 160) (t8 := 179) (td := 186) (by decide) (by decide) (by decide) (by decide) (by decide) (by decide) (by decide) (by decide) (by decide) (by decide) (fun c35 => ?_) (fun c35 => ?_) (fun c35 => ?_) (fun c35 => ?_) (fun c35 => ?_) (fun c35 => ?_) (fun c35 => ?_) (fun c35 => ?_) (fun c35 => ?_) (fun c35 => ?_)
      · subst c35
        have hf : f_forge M (nI y) 0 n = f_asThing M y n := by unfold f_forge; rw [if_neg (by rw [fin5, i1]; decide), if_neg (by decide), if_neg (by rw [c20]; decide), e1]; rfl
        refine wp_aload_n (pc := 84) dX11_forge_84 rfl rfl ?_
        refine wp_aload (pc := 85) dX11_forge_85 rfl ?_
        refine wp_iload_n (pc := 87) dX11_forge_87 rfl rfl ?_
        refine wp_iconst (pc := 88) (v := 5) dX11_forge_88 (by decide) ?_
        refine wc_SP (pc := 89) (μ2 := mJ9_floorMod_7cf53) (rc := 0) (rs := 0) [_, _] dX11_forge_89 rfl cs_X11_357 rfl ⟨(Nat.le_of_ble_eq_true rfl), (Nat.le_of_ble_eq_true rfl)⟩ (Nat.le_of_ble_eq_true rfl) (j_floorMod l G _ _ _ (by decide)) ?_
        refine wc_VV (pc := 92) (μ2 := mX11_lengthAsKind) (rc := 0) (rs := 0) [_, _] dX11_forge_92 rfl hR.bd rfl cv_X11_360_12 rfl ⟨(Nat.le_of_ble_eq_true rfl), (Nat.le_of_ble_eq_true rfl)⟩ (Nat.le_of_ble_eq_true rfl) (c_lak (M := sS M 58 0) l G _ (flm_5 c20).2 hR hy h54 ht1 ht2) (fun r h q => ?_)
        obtain ⟨rfl, hR⟩ := q
        exact wp_iret (pc := 95) dX11_forge_95 rfl ⟨_, rfl, by rw [hf, lak_eq (flm_5 c20).1], A, by rw [hf, lak_eq (flm_5 c20).1]; exact hR, ext.refl A M⟩
      · subst c35
        have hf : f_forge M (nI y) 1 n = f_asLetter M y n := by unfold f_forge; rw [if_neg (by rw [fin5, i1]; decide), if_neg (by decide), if_neg (by rw [c20]; decide), e1]; rfl
        refine wp_aload_n (pc := 96) dX11_forge_96 rfl rfl ?_
        refine wp_aload (pc := 97) dX11_forge_97 rfl ?_
        refine wp_iload_n (pc := 99) dX11_forge_99 rfl rfl ?_
        refine wp_iconst (pc := 100) (v := 1) dX11_forge_100 (by decide) ?_
        refine wp_iand (pc := 101) dX11_forge_101 ?_
        refine wp_if_ne (pc := 102) (tgt := 109) dX11_forge_102 (by decide) (fun c102 => ?_) (fun c102 => ?_)
        · skip
          refine wp_iconst (pc := 109) (v := 0) dX11_forge_109 (by decide) ?_
          refine wc_VV (pc := 110) (μ2 := mX11_thingOfLetter) (rc := 0) (rs := 0) [_, _] dX11_forge_110 rfl hR.bd rfl cv_X11_364_12 rfl ⟨(Nat.le_of_ble_eq_true rfl), (Nat.le_of_ble_eq_true rfl)⟩ (Nat.le_of_ble_eq_true rfl) (c_tol (M := sS M 58 0) l G _ (by decide) hR hy h54 ht1 ht2) (fun r h q => ?_)
          obtain ⟨rfl, hR⟩ := q
          exact wp_iret (pc := 113) dX11_forge_113 rfl ⟨_, rfl, by rw [hf, tol_eq (b := 0) (by rw [if_neg (fun z => c102 ((an1 c20).mpr z))])], A, by rw [hf, tol_eq (b := 0) (by rw [if_neg (fun z => c102 ((an1 c20).mpr z))])]; exact hR, ext.refl A M⟩
        · skip
          refine wp_iconst (pc := 105) (v := 1) dX11_forge_105 (by decide) ?_
          refine wp_goto (pc := 106) (tgt := 110) dX11_forge_106 (by decide) ?_
          refine wc_VV (pc := 110) (μ2 := mX11_thingOfLetter) (rc := 0) (rs := 0) [_, _] dX11_forge_110 rfl hR.bd rfl cv_X11_364_12 rfl ⟨(Nat.le_of_ble_eq_true rfl), (Nat.le_of_ble_eq_true rfl)⟩ (Nat.le_of_ble_eq_true rfl) (c_tol (M := sS M 58 0) l G _ (by decide) hR hy h54 ht1 ht2) (fun r h q => ?_)
          obtain ⟨rfl, hR⟩ := q
          exact wp_iret (pc := 113) dX11_forge_113 rfl ⟨_, rfl, by rw [hf, tol_eq (b := 1) (by rw [if_pos ((an1 c20).mp c102)])], A, by rw [hf, tol_eq (b := 1) (by rw [if_pos ((an1 c20).mp c102)])]; exact hR, ext.refl A M⟩
      · subst c35
        have hf : f_forge M (nI y) 2 n = f_asRow M y 3 n := by unfold f_forge; rw [if_neg (by rw [fin5, i1]; decide), if_neg (by decide), if_neg (by rw [c20]; decide), e1]; rfl
        refine wp_aload_n (pc := 114) dX11_forge_114 rfl rfl ?_
        refine wp_aload (pc := 115) dX11_forge_115 rfl ?_
        refine wp_iload_n (pc := 117) dX11_forge_117 rfl rfl ?_
        refine wc_VV (pc := 118) (μ2 := mX11_numberAt) (rc := 0) (rs := 0) [_, _] dX11_forge_118 rfl hR.bd rfl cv_X11_368_12 rfl ⟨(Nat.le_of_ble_eq_true rfl), (Nat.le_of_ble_eq_true rfl)⟩ (Nat.le_of_ble_eq_true rfl) (c_nat (M := sS M 58 0) l G _ hR hy h54 ht1 ht2 hz hz2 h01) (fun r h q => ?_)
        obtain ⟨rfl, hR⟩ := q
        exact wp_iret (pc := 121) dX11_forge_121 rfl ⟨_, rfl, by rw [hf, arw_eq], A, by rw [hf, arw_eq]; exact hR, ext.refl A M⟩
      · subst c35
        have hf : f_forge M (nI y) 3 n = f_asRow M y 4 n := by unfold f_forge; rw [if_neg (by rw [fin5, i1]; decide), if_neg (by decide), if_neg (by rw [c20]; decide), e1]; rfl
        refine wp_aload_n (pc := 122) dX11_forge_122 rfl rfl ?_
        refine wp_aload (pc := 123) dX11_forge_123 rfl ?_
        refine wp_iload_n (pc := 125) dX11_forge_125 rfl rfl ?_
        refine wc_VV (pc := 126) (μ2 := mX11_truthAt) (rc := 0) (rs := 0) [_, _] dX11_forge_126 rfl hR.bd rfl cv_X11_371_12 rfl ⟨(Nat.le_of_ble_eq_true rfl), (Nat.le_of_ble_eq_true rfl)⟩ (Nat.le_of_ble_eq_true rfl) (c_tat (M := sS M 58 0) l G _ hR hy h54 ht1 ht2 hz hz2 h01) (fun r h q => ?_)
        obtain ⟨rfl, hR⟩ := q
        exact wp_iret (pc := 129) dX11_forge_129 rfl ⟨_, rfl, by rw [hf, arw_eq], A, by rw [hf, arw_eq]; exact hR, ext.refl A M⟩
      · subst c35
        have hf : f_forge M (nI y) 4 n = (if 0 ≤ n then (n, sS M 58 0) else (-1, sS M 58 13)) := by unfold f_forge; rw [if_neg (by rw [fin5, i1]; decide), if_neg (by decide), if_neg (by rw [c20]; decide), e1]; rfl
        refine wp_iload_n (pc := 130) dX11_forge_130 rfl rfl ?_
        refine wp_if_ge (pc := 131) (tgt := 143) dX11_forge_131 (by decide) (fun c131 => ?_) (fun c131 => ?_)
        · skip
          refine wp_iload_n (pc := 143) dX11_forge_143 rfl rfl ?_
          exact wp_iret (pc := 144) dX11_forge_144 rfl ⟨_, rfl, by rw [hf, if_pos c131], A, by rw [hf, if_pos c131]; exact hR, ext.refl A M⟩
        · skip
          refine wp_aload_n (pc := 134) dX11_forge_134 rfl rfl ?_
          refine wp_bipush (pc := 135) (v := 13) dX11_forge_135 (by decide) ?_
          refine wc_VV (pc := 137) (μ2 := mX11_refuse) (rc := 0) (rs := 0) [_] dX11_forge_137 rfl hR.bd rfl cv_X11_328_12 rfl ⟨(Nat.le_of_ble_eq_true rfl), (Nat.le_of_ble_eq_true rfl)⟩ (Nat.le_of_ble_eq_true rfl) (c_refuse l G _ hR) (fun r h q => ?_)
          obtain ⟨rfl, hR⟩ := q
          refine wp_goto (pc := 140) (tgt := 144) dX11_forge_140 (by decide) ?_
          exact wp_iret (pc := 144) dX11_forge_144 rfl ⟨_, rfl, by rw [hf, if_neg c131, ← sS_sS M 58 0 13], A, by rw [hf, if_neg c131, ← sS_sS M 58 0 13]; exact hR, ext.refl A M⟩
      · subst c35
        have hf : f_forge M (nI y) 5 n = f_copied M y n := by unfold f_forge; rw [if_neg (by rw [fin5, i1]; decide), if_neg (by decide), if_neg (by rw [c20]; decide), e1]; rfl
        refine wp_aload_n (pc := 145) dX11_forge_145 rfl rfl ?_
        refine wp_aload (pc := 146) dX11_forge_146 rfl ?_
        refine wp_iload_n (pc := 148) dX11_forge_148 rfl rfl ?_
        refine wc_VV (pc := 149) (μ2 := mX11_sumOfCopied) (rc := 0) (rs := 0) [_, _] dX11_forge_149 rfl hR.bd rfl cv_X11_374_12 rfl ⟨(Nat.le_of_ble_eq_true rfl), (Nat.le_of_ble_eq_true rfl)⟩ (Nat.le_of_ble_eq_true rfl) (c_soc (M := sS M 58 0) l G _ (fin_t c20).2 hR hy h54 ht1 ht2 hz hz2 h01) (fun r h q => ?_)
        obtain ⟨rfl, hR⟩ := q
        exact wp_iret (pc := 152) dX11_forge_152 rfl ⟨_, rfl, by rw [hf, soc_eq], A, by rw [hf, soc_eq]; exact hR, ext.refl A M⟩
      · subst c35
        have hf : f_forge M (nI y) 6 n = f_laid M y := by unfold f_forge; rw [if_neg (by rw [fin5, i1]; decide), if_neg (by decide), if_neg (by rw [c20]; decide), e1]; rfl
        refine wp_aload_n (pc := 153) dX11_forge_153 rfl rfl ?_
        refine wp_aload (pc := 154) dX11_forge_154 rfl ?_
        refine wc_VV (pc := 156) (μ2 := mX11_lengthLaidAmongShared) (rc := 0) (rs := 0) [_] dX11_forge_156 rfl hR.bd rfl cv_X11_377_12 rfl ⟨(Nat.le_of_ble_eq_true rfl), (Nat.le_of_ble_eq_true rfl)⟩ (Nat.le_of_ble_eq_true rfl) (c_las (M := sS M 58 0) l G hR hy h54 ht1 ht2) (fun r h q => ?_)
        obtain ⟨rfl, hR⟩ := q
        exact wp_iret (pc := 159) dX11_forge_159 rfl ⟨_, rfl, by rw [hf, las_eq], A, by rw [hf, las_eq]; exact hR, ext.refl A M⟩
      · subst c35
        have hf : f_forge M (nI y) 7 n = (if n = 0 then (-1, sS M 58 15) else (1000 / n, sS M 58 0)) := by unfold f_forge; rw [if_neg (by rw [fin5, i1]; decide), if_neg (by decide), if_neg (by rw [c20]; decide), e1]; rfl
        refine wp_iload_n (pc := 160) dX11_forge_160 rfl rfl ?_
        refine wp_if_ne (pc := 161) (tgt := 173) dX11_forge_161 (by decide) (fun c161 => ?_) (fun c161 => ?_)
        · skip
          refine wp_sipush (pc := 173) (v := 1000) dX11_forge_173 (by decide) ?_
          refine wp_iload_n (pc := 176) dX11_forge_176 rfl rfl ?_
          refine wp_idiv (pc := 177) dX11_forge_177 c161 ?_
          exact wp_iret (pc := 178) dX11_forge_178 rfl ⟨_, rfl, by rw [hf, if_neg c161], A, by rw [hf, if_neg c161]; exact hR, ext.refl A M⟩
        · skip
          refine wp_aload_n (pc := 164) dX11_forge_164 rfl rfl ?_
          refine wp_bipush (pc := 165) (v := 15) dX11_forge_165 (by decide) ?_
          refine wc_VV (pc := 167) (μ2 := mX11_refuse) (rc := 0) (rs := 0) [_] dX11_forge_167 rfl hR.bd rfl cv_X11_328_12 rfl ⟨(Nat.le_of_ble_eq_true rfl), (Nat.le_of_ble_eq_true rfl)⟩ (Nat.le_of_ble_eq_true rfl) (c_refuse l G _ hR) (fun r h q => ?_)
          obtain ⟨rfl, hR⟩ := q
          refine wp_goto (pc := 170) (tgt := 178) dX11_forge_170 (by decide) ?_
          exact wp_iret (pc := 178) dX11_forge_178 rfl ⟨_, rfl, by rw [hf, if_pos c161, ← sS_sS M 58 0 15], A, by rw [hf, if_pos c161, ← sS_sS M 58 0 15]; exact hR, ext.refl A M⟩
      · subst c35
        have hf : f_forge M (nI y) 8 n = (-1, sS M 58 10) := by unfold f_forge; rw [if_neg (by rw [fin5, i1]; decide), if_neg (by decide), if_neg (by rw [c20]; decide), e1]; rfl
        refine wp_aload_n (pc := 179) dX11_forge_179 rfl rfl ?_
        refine wp_bipush (pc := 180) (v := 10) dX11_forge_180 (by decide) ?_
        refine wc_VV (pc := 182) (μ2 := mX11_refuse) (rc := 0) (rs := 0) [_] dX11_forge_182 rfl hR.bd rfl cv_X11_328_12 rfl ⟨(Nat.le_of_ble_eq_true rfl), (Nat.le_of_ble_eq_true rfl)⟩ (Nat.le_of_ble_eq_true rfl) (c_refuse l G _ hR) (fun r h q => ?_)
        obtain ⟨rfl, hR⟩ := q
        exact wp_iret (pc := 185) dX11_forge_185 rfl ⟨_, rfl, by rw [hf, ← sS_sS M 58 0 10], A, by rw [hf, ← sS_sS M 58 0 10]; exact hR, ext.refl A M⟩
      · skip
        refine wp_aload_n (pc := 186) dX11_forge_186 rfl rfl ?_
        refine wp_iconst (pc := 187) (v := 1) dX11_forge_187 (by decide) ?_
        refine wc_VV (pc := 188) (μ2 := mX11_refuse) (rc := 0) (rs := 0) [_] dX11_forge_188 rfl hR.bd rfl cv_X11_328_12 rfl ⟨(Nat.le_of_ble_eq_true rfl), (Nat.le_of_ble_eq_true rfl)⟩ (Nat.le_of_ble_eq_true rfl) (c_refuse l G _ hR) (fun r h q => ?_)
        obtain ⟨rfl, hR⟩ := q
        exact wp_iret (pc := 191) dX11_forge_191 rfl ⟨_, rfl, by rw [forge_1 (Or.inr (Or.inr (fin_out c35))), ← sS_sS M 58 0 1], A, by rw [forge_1 (Or.inr (Or.inr (fin_out c35))), ← sS_sS M 58 0 1]; exact hR, ext.refl A M⟩
    · skip
      refine wp_aload_n (pc := 23) dX11_forge_23 rfl rfl ?_
      refine wp_iconst (pc := 24) (v := 1) dX11_forge_24 (by decide) ?_
      refine wc_VV (pc := 25) (μ2 := mX11_refuse) (rc := 0) (rs := 0) [_] dX11_forge_25 rfl hR.bd rfl cv_X11_328_12 rfl ⟨(Nat.le_of_ble_eq_true rfl), (Nat.le_of_ble_eq_true rfl)⟩ (Nat.le_of_ble_eq_true rfl) (c_refuse l G _ hR) (fun r h q => ?_)
      obtain ⟨rfl, hR⟩ := q
      exact wp_iret (pc := 28) dX11_forge_28 rfl ⟨_, rfl, by rw [forge_1 (Or.inr (Or.inl c20))], A, by rw [forge_1 (Or.inr (Or.inl c20))]; exact hR, ext.refl A M⟩
end K31
