theorem nI_m1 {a : Nat} (h : a < 2 ^ 31) : ¬ nI a = -1 := fun e => nI_pos h (by rw [e]; decide)
theorem gof_lt {M : MS} {t g a : Nat} {w : Int32} (h : gof M t w g = some a) : a < g ∧ M.2.1 22 (20 * t + a) = w := by
  have h1 := List.mem_of_find?_eq_some h
  have h2 := List.find?_some h
  exact ⟨List.mem_range.mp h1, of_decide_eq_true h2⟩
theorem qat_lt {M : MS} {t g a : Nat} {w : Int32} (h : qat M t w g = some a) : a < g ∧ M.2.1 17 (8 * t + a) = w := by
  have h1 := List.mem_of_find?_eq_some h
  have h2 := List.find?_some h
  exact ⟨List.mem_range.mp h1, of_decide_eq_true h2⟩
theorem plc_m1 {o : Option Nat} (h : ∀ a, o = some a → a < 2 ^ 31) : plc o = -1 ↔ o = none := by
  cases o with
  | none => exact ⟨fun _ => rfl, fun _ => rfl⟩
  | some a => exact ⟨fun e => absurd e (nI_m1 (h a rfl)), fun e => by cases e⟩
theorem mnt_lt {M : MS} {j t a : Nat} (h : mnt M j t = some a) : a < nx (M.2.1 21 t) := by
  unfold mnt at h
  split at h
  · rename_i b hb
    split at h
    · cases h; exact (gof_lt hb).1
    · cases h
  · cases h
section M6
variable (l : Launch) (G : WG) (x : Nat) (am : Nat → Nat) (M : MS)
theorem ms_meant  (j : Nat) {t g : Nat} (ht : t < 20) (hg : M.2.1 21 t = nI g) (hg2 : g ≤ 20) (hj : j < 400) (htj : M.2.1 39 j = nI t) : MSp l G x am mX12_meant [.int (nI j)] M (some (.int (plc (mnt M j t)))) M := by
  refine MSp.intro (lv := [_, _, _]) (by decide) rfl (Nat.le_of_ble_eq_true rfl) (fun h0 h hM hF => ?_)
  have hgx : nx (M.2.1 21 t) = g := by rw [hg]; exact nx_nI (by omega)
  refine wp_aload_n (pc := 0) dX12_meant_0 rfl rfl ?_
  refine wp_aload_n (pc := 1) dX12_meant_1 rfl rfl ?_
  refine wp_get (pc := 2) dX12_meant_2 fl_X12_109_13 hM.1 rfl ?_
  refine wp_iload_n (pc := 5) dX12_meant_5 rfl rfl ?_
  refine wp_iald (pc := 6) (i := j) dX12_meant_6 (hM.i 39 rfl) ⟨rfl, by omega, by decide⟩ ?_
  rw [htj]
  refine wp_aload_n (pc := 7) dX12_meant_7 rfl rfl ?_
  refine wp_get (pc := 8) dX12_meant_8 fl_X12_103_13 hM.1 rfl ?_
  refine wp_iload_n (pc := 11) dX12_meant_11 rfl rfl ?_
  refine wp_iald (pc := 12) (i := j) dX12_meant_12 (hM.i 37 rfl) ⟨rfl, by omega, by decide⟩ ?_
  refine mp_call (pc := 13) [_, _] dX12_meant_13 rfl cv_X12_235_13 rfl ⟨(Nat.le_of_ble_eq_true rfl), (Nat.le_of_ble_eq_true rfl)⟩ (Nat.le_of_ble_eq_true rfl) ⟨rfl, rfl⟩ (ms_grantOf l G x am _ _ _ _ (by omega) (by exact hg) hg2) hM hF (fun h hM hF => ?_)
  cases ho : gof M t (M.2.1 37 j) g with
  | none =>
    refine wp_istore_n (pc := 16) (lv' := [_, _, _]) dX12_meant_16 rfl (Nat.le_of_ble_eq_true rfl) rfl rfl ?_
    refine wp_iload_n (pc := 17) dX12_meant_17 rfl rfl ?_
    refine wp_iconst (pc := 18) (v := (-1)) dX12_meant_18 (by decide) ?_
    refine wp_icmp_eq (pc := 19) (tgt := 52) dX12_meant_19 (by decide) (fun _ => ?_) (fun z => absurd rfl z)
    refine wp_iconst (pc := 52) (v := (-1)) dX12_meant_52 (by decide) ?_
    exact wp_iret (pc := 53) dX12_meant_53 rfl ⟨by unfold mnt; rw [hgx, ho]; rfl, hM, hF⟩
  | some a =>
    have ha := (gof_lt ho).1
    rw [show plc (some a) = nI a from rfl]
    refine wp_istore_n (pc := 16) (lv' := [_, _, _]) dX12_meant_16 rfl (Nat.le_of_ble_eq_true rfl) rfl rfl ?_
    refine wp_iload_n (pc := 17) dX12_meant_17 rfl rfl ?_
    refine wp_iconst (pc := 18) (v := (-1)) dX12_meant_18 (by decide) ?_
    refine wp_icmp_eq (pc := 19) (tgt := 52) dX12_meant_19 (by decide) (fun z => absurd z (nI_m1 (by omega))) (fun _ => ?_)
    refine wp_aload_n (pc := 22) dX12_meant_22 rfl rfl ?_
    refine wp_get (pc := 23) dX12_meant_23 fl_X12_72_13 hM.1 rfl ?_
    refine wp_bipush (pc := 26) (v := 20) dX12_meant_26 (by decide) ?_
    refine wp_aload_n (pc := 28) dX12_meant_28 rfl rfl ?_
    refine wp_get (pc := 29) dX12_meant_29 fl_X12_109_13 hM.1 rfl ?_
    refine wp_iload_n (pc := 32) dX12_meant_32 rfl rfl ?_
    refine wp_iald (pc := 33) (i := j) dX12_meant_33 (hM.i 39 rfl) ⟨rfl, by omega, by decide⟩ ?_
    rw [htj]
    refine wp_imul (pc := 34) dX12_meant_34 ?_
    refine wp_iload_n (pc := 35) dX12_meant_35 rfl rfl ?_
    refine wp_iadd (pc := 36) dX12_meant_36 ?_
    refine wp_lald (pc := 37) (i := ((20 * t) + a)) dX12_meant_37 (hM.j 25 rfl) ⟨by simp only [nl1, nl5, nl8, nl20, pk_mul, nI_add], by omega, by decide⟩ ?_
    refine wp_aload_n (pc := 38) dX12_meant_38 rfl rfl ?_
    refine wp_get (pc := 39) dX12_meant_39 fl_X12_124_13 hM.1 rfl ?_
    refine wp_iload_n (pc := 42) dX12_meant_42 rfl rfl ?_
    refine wp_lald (pc := 43) (i := j) dX12_meant_43 (hM.j 44 rfl) ⟨rfl, by omega, by decide⟩ ?_
    refine wp_lcmp_ne (pc := 44) (tgt := 52) dX12_meant_44 dX12_meant_45 (by decide) (fun c44 => ?_) (fun c44 => ?_)
    · skip
      refine wp_iconst (pc := 52) (v := (-1)) dX12_meant_52 (by decide) ?_
      exact wp_iret (pc := 53) dX12_meant_53 rfl ⟨by unfold mnt; rw [hgx, ho]; simp only [eq_false c44, if_true, if_false, Bool.true_eq_false, Bool.false_eq_true, reduceIte, reduceCtorEq, Bool.not_true, Bool.not_false, true_and, and_true, and_false, false_and, or_true, true_or, or_false, false_or, not_true_eq_false, not_false_eq_true] <;> rfl, hM, hF⟩
    · skip
      refine wp_iload_n (pc := 48) dX12_meant_48 rfl rfl ?_
      refine wp_goto (pc := 49) (tgt := 53) dX12_meant_49 (by decide) ?_
      exact wp_iret (pc := 53) dX12_meant_53 rfl ⟨by unfold mnt; rw [hgx, ho]; simp only [eq_true c44, if_true, if_false, Bool.true_eq_false, Bool.false_eq_true, reduceIte, reduceCtorEq, Bool.not_true, Bool.not_false, true_and, and_true, and_false, false_and, or_true, true_or, or_false, false_or, not_true_eq_false, not_false_eq_true] <;> rfl, hM, hF⟩
theorem ms_prolongs  (j : Nat) (a : Nat) {t k : Nat} (ht : t < 20) (ha : a < 20) (htj : M.2.1 39 j = nI t) (hk : M.1 27 = nI k) (hk5 : k < 5) (hd0 : ¬ 1000 - M.1 0 = 0) {L : Nat} (hL : M.1 35 = nI L) (hL4 : L < 400) (hj : j < 400) : MSp l G x am mX12_prolongs [.int (nI j), .int (nI a)] M none (prlM M j t a) := by
  refine MSp.intro (lv := [_, _, _, _]) (by decide) rfl (Nat.le_of_ble_eq_true rfl) (fun h0 h hM hF => ?_)
  have hkx : nx (M.1 27) = k := by rw [hk]; exact nx_nI (by omega)
  refine wp_aload_n (pc := 0) dX12_prolongs_0 rfl rfl ?_
  refine wp_get (pc := 1) dX12_prolongs_1 fl_X12_109_13 hM.1 rfl ?_
  refine wp_iload_n (pc := 4) dX12_prolongs_4 rfl rfl ?_
  refine wp_iald (pc := 5) (i := j) dX12_prolongs_5 (hM.i 39 rfl) ⟨rfl, by omega, by decide⟩ ?_
  rw [htj]
  refine wp_istore_n (pc := 6) (lv' := [_, _, _, _]) dX12_prolongs_6 rfl (Nat.le_of_ble_eq_true rfl) rfl rfl ?_
  refine wp_aload_n (pc := 7) dX12_prolongs_7 rfl rfl ?_
  refine wp_get (pc := 8) dX12_prolongs_8 fl_X12_75_13 hM.1 rfl ?_
  refine wp_bipush (pc := 11) (v := 20) dX12_prolongs_11 (by decide) ?_
  refine wp_iload_n (pc := 13) dX12_prolongs_13 rfl rfl ?_
  refine wp_imul (pc := 14) dX12_prolongs_14 ?_
  refine wp_iload_n (pc := 15) dX12_prolongs_15 rfl rfl ?_
  refine wp_iadd (pc := 16) dX12_prolongs_16 ?_
  refine wp_aload_n (pc := 17) dX12_prolongs_17 rfl rfl ?_
  refine wp_aload_n (pc := 18) dX12_prolongs_18 rfl rfl ?_
  refine wp_get (pc := 19) dX12_prolongs_19 fl_X12_78_13 hM.1 rfl ?_
  rw [hk]
  refine mp_call (pc := 22) [_] dX12_prolongs_22 rfl cv_X12_187_13 rfl ⟨(Nat.le_of_ble_eq_true rfl), (Nat.le_of_ble_eq_true rfl)⟩ (Nat.le_of_ble_eq_true rfl) ⟨rfl, rfl⟩ (ms_kClock l G x am _ _ hk5) hM hF (fun h hM hF => ?_)
  refine wp_aload_n (pc := 25) dX12_prolongs_25 rfl rfl ?_
  refine wp_iload_n (pc := 26) dX12_prolongs_26 rfl rfl ?_
  refine mp_call (pc := 27) [_] dX12_prolongs_27 rfl cv_X12_210_13 rfl ⟨(Nat.le_of_ble_eq_true rfl), (Nat.le_of_ble_eq_true rfl)⟩ (Nat.le_of_ble_eq_true rfl) ⟨rfl, rfl⟩ (ms_long0 l G x am _ _ (by omega) (by exact hd0)) hM hF (fun h hM hF => ?_)
  refine wp_i2l (pc := 30) dX12_prolongs_30 ?_
  refine wp_ladd (pc := 31) dX12_prolongs_31 ?_
  refine mp_last (pc := 32) (k := 26) (i := ((20 * t) + a)) dX12_prolongs_32 hM hF rfl ⟨by simp only [nl1, nl5, nl8, nl20, pk_mul, nI_add], by omega, by decide⟩ (fun h hM hF => ?_)
  refine wp_aload_n (pc := 33) dX12_prolongs_33 rfl rfl ?_
  refine wp_iload_n (pc := 34) dX12_prolongs_34 rfl rfl ?_
  refine wp_iload_n (pc := 35) dX12_prolongs_35 rfl rfl ?_
  refine mp_callV (pc := 36) [_, _] dX12_prolongs_36 rfl cv_X12_274_13 rfl ⟨(Nat.le_of_ble_eq_true rfl), (Nat.le_of_ble_eq_true rfl)⟩ (Nat.le_of_ble_eq_true rfl) ⟨rfl, rfl⟩ (ms_grants l G x am _ _ _ (t := t) (by omega) (by omega) (by exact htj) (by exact hL) (by omega) (by omega)) hM hF (fun h hM hF => ?_)
  exact wp_vret (pc := 39) dX12_prolongs_39 rfl ⟨rfl, by unfold prlM; rw [hkx]; exact hM, hF⟩
def risM (M : MS) (j t : Nat) : MS := match mnt M j t with
  | none => lteM M j
  | some a => if M.2.1 23 (20 * t + a) = 0 then prlM M j t a
    else if ¬ M.2.1 15 t = -1 ∧ ¬ M.2.1 15 t = M.2.1 37 j then rfsM M j
    else if M.2.1 21 t = 1 then grsM (sI (grtM (sI (sI M 15 t (M.2.1 37 j)) 23 (20 * t) 0) t 0) 15 t (-1)) j t 0
    else sI M 15 t (M.2.1 37 j)
/-- the grant that an ASK makes -/
def askG (M : MS) (j t : Nat) : MS :=
  let g := nx (M.2.1 21 t)
  let A := sI M 21 t (M.2.1 21 t + 1)
  let B := sI A 22 (20 * t + g) (M.2.1 37 j)
  let C := sI B 23 (20 * t + g) (B.2.1 40 j)
  let D := sI C 24 (20 * t + g) (C.2.1 41 j)
  grsM (grtM D t g) j t g
def askQ (M : MS) (j t : Nat) : MS := match qat M t (M.2.1 37 j) (nx (M.2.1 16 t)) with
  | some b => unqM M t b (nx (M.2.1 16 t))
  | none => M
def askM (M : MS) (j t : Nat) : MS :=
  if gof M t (M.2.1 37 j) (nx (M.2.1 21 t)) ≠ none then rfsM M j
  else if fts M t (M.2.1 37 j) (M.2.1 40 j) (M.2.1 41 j) = true then askG (askQ M j t) j t
  else if M.2.1 12 t = 4 then (if qat M t (M.2.1 37 j) (nx (M.2.1 16 t)) = none then (if M.2.1 16 t = 8 then rfsM M j else sI (sI M 17 (8 * t + nx (M.2.1 16 t)) (M.2.1 37 j)) 16 t (M.2.1 16 t + 1)) else M)
  else rfsM M j
theorem ms_rises  (j : Nat) {t g k : Nat} (ht : t < 20) (hg : M.2.1 21 t = nI g) (hg2 : g ≤ 20) (htj : M.2.1 39 j = nI t) (hk : M.1 27 = nI k) (hk5 : k < 5) (hd0 : ¬ 1000 - M.1 0 = 0) {L : Nat} (hL : M.1 35 = nI L) (hL4 : L < 400) (hj : j < 400) : MSp l G x am mX12_rises [.int (nI j)] M none (risM M j t) := by
  refine MSp.intro (lv := [_, _, _, _, _]) (by decide) rfl (Nat.le_of_ble_eq_true rfl) (fun h0 h hM hF => ?_)
  have hgx : nx (M.2.1 21 t) = g := by rw [hg]; exact nx_nI (by omega)
  refine wp_aload_n (pc := 0) dX12_rises_0 rfl rfl ?_
  refine wp_get (pc := 1) dX12_rises_1 fl_X12_109_13 hM.1 rfl ?_
  refine wp_iload_n (pc := 4) dX12_rises_4 rfl rfl ?_
  refine wp_iald (pc := 5) (i := j) dX12_rises_5 (hM.i 39 rfl) ⟨rfl, by omega, by decide⟩ ?_
  rw [htj]
  refine wp_istore_n (pc := 6) (lv' := [_, _, _, _, _]) dX12_rises_6 rfl (Nat.le_of_ble_eq_true rfl) rfl rfl ?_
  refine wp_aload_n (pc := 7) dX12_rises_7 rfl rfl ?_
  refine wp_get (pc := 8) dX12_rises_8 fl_X12_103_13 hM.1 rfl ?_
  refine wp_iload_n (pc := 11) dX12_rises_11 rfl rfl ?_
  refine wp_iald (pc := 12) (i := j) dX12_rises_12 (hM.i 37 rfl) ⟨rfl, by omega, by decide⟩ ?_
  refine wp_istore_n (pc := 13) (lv' := [_, _, _, _, _]) dX12_rises_13 rfl (Nat.le_of_ble_eq_true rfl) rfl rfl ?_
  refine wp_aload_n (pc := 14) dX12_rises_14 rfl rfl ?_
  refine wp_iload_n (pc := 15) dX12_rises_15 rfl rfl ?_
  refine mp_call (pc := 16) [_] dX12_rises_16 rfl cv_X12_276_13 rfl ⟨(Nat.le_of_ble_eq_true rfl), (Nat.le_of_ble_eq_true rfl)⟩ (Nat.le_of_ble_eq_true rfl) ⟨rfl, rfl⟩ (ms_meant l G x am _ _ (t := t) (by omega) (by exact hg) hg2 (by omega) (by exact htj)) hM hF (fun h hM hF => ?_)
  cases ho : mnt M j t with
  | none =>
    refine wp_istore (pc := 19) (lv' := [_, _, _, _, _]) dX12_rises_19 (Nat.le_of_ble_eq_true rfl) rfl rfl ?_
    refine wp_iload (pc := 21) dX12_rises_21 rfl ?_
    refine wp_iconst (pc := 23) (v := (-1)) dX12_rises_23 (by decide) ?_
    refine wp_icmp_ne (pc := 24) (tgt := 35) dX12_rises_24 (by decide) (fun z => absurd rfl z) (fun _ => ?_)
    refine wp_aload_n (pc := 27) dX12_rises_27 rfl rfl ?_
    refine wp_iload_n (pc := 28) dX12_rises_28 rfl rfl ?_
    refine mp_callV (pc := 29) [_] dX12_rises_29 rfl cv_X12_279_13 rfl ⟨(Nat.le_of_ble_eq_true rfl), (Nat.le_of_ble_eq_true rfl)⟩ (Nat.le_of_ble_eq_true rfl) ⟨rfl, rfl⟩ (ms_isLate l G x am _ _ (by exact hL) (by omega) (by omega)) hM hF (fun h hM hF => ?_)
    refine wp_goto (pc := 32) (tgt := 134) dX12_rises_32 (by decide) ?_
    exact wp_vret (pc := 134) dX12_rises_134 rfl ⟨rfl, by rw [risM, ho]; exact hM, hF⟩
  | some a =>
    have ha : a < g := by have := mnt_lt ho; rw [hgx] at this; exact this
    rw [show plc (some a) = nI a from rfl]
    refine wp_istore (pc := 19) (lv' := [_, _, _, _, _]) dX12_rises_19 (Nat.le_of_ble_eq_true rfl) rfl rfl ?_
    refine wp_iload (pc := 21) dX12_rises_21 rfl ?_
    refine wp_iconst (pc := 23) (v := (-1)) dX12_rises_23 (by decide) ?_
    refine wp_icmp_ne (pc := 24) (tgt := 35) dX12_rises_24 (by decide) (fun _ => ?_) (fun z => absurd z (nI_m1 (by omega)))
    refine wp_aload_n (pc := 35) dX12_rises_35 rfl rfl ?_
    refine wp_get (pc := 36) dX12_rises_36 fl_X12_66_13 hM.1 rfl ?_
    refine wp_bipush (pc := 39) (v := 20) dX12_rises_39 (by decide) ?_
    refine wp_iload_n (pc := 41) dX12_rises_41 rfl rfl ?_
    refine wp_imul (pc := 42) dX12_rises_42 ?_
    refine wp_iload (pc := 43) dX12_rises_43 rfl ?_
    refine wp_iadd (pc := 45) dX12_rises_45 ?_
    refine wp_iald (pc := 46) (i := ((20 * t) + a)) dX12_rises_46 (hM.i 23 rfl) ⟨by simp only [nl1, nl5, nl8, nl20, pk_mul, nI_add], by omega, by decide⟩ ?_
    refine wp_if_ne (pc := 47) (tgt := 60) dX12_rises_47 (by decide) (fun c47 => ?_) (fun c47 => ?_)
    · skip
      refine wp_aload_n (pc := 60) dX12_rises_60 rfl rfl ?_
      refine wp_get (pc := 61) dX12_rises_61 fl_X12_41_13 hM.1 rfl ?_
      refine wp_iload_n (pc := 64) dX12_rises_64 rfl rfl ?_
      refine wp_iald (pc := 65) (i := t) dX12_rises_65 (hM.i 15 rfl) ⟨rfl, by omega, by decide⟩ ?_
      refine wp_iconst (pc := 66) (v := (-1)) dX12_rises_66 (by decide) ?_
      refine wp_icmp_eq (pc := 67) (tgt := 88) dX12_rises_67 (by decide) (fun c67 => ?_) (fun c67 => ?_)
      · skip
        refine wp_aload_n (pc := 88) dX12_rises_88 rfl rfl ?_
        refine wp_get (pc := 89) dX12_rises_89 fl_X12_41_13 hM.1 rfl ?_
        refine wp_iload_n (pc := 92) dX12_rises_92 rfl rfl ?_
        refine wp_iload_n (pc := 93) dX12_rises_93 rfl rfl ?_
        refine mp_iast (pc := 94) (k := 15) (i := t) dX12_rises_94 hM hF rfl ⟨rfl, by omega, by decide⟩ (fun h hM hF => ?_)
        refine wp_aload_n (pc := 95) dX12_rises_95 rfl rfl ?_
        refine wp_get (pc := 96) dX12_rises_96 fl_X12_60_13 hM.1 rfl ?_
        refine wp_iload_n (pc := 99) dX12_rises_99 rfl rfl ?_
        refine wp_iald (pc := 100) (i := t) dX12_rises_100 (hM.i 21 rfl) ⟨rfl, by omega, by decide⟩ ?_
        refine wp_iconst (pc := 101) (v := 1) dX12_rises_101 (by decide) ?_
        refine wp_icmp_ne (pc := 102) (tgt := 134) dX12_rises_102 (by decide) (fun c102 => ?_) (fun c102 => ?_)
        · have c102 : ¬ M.2.1 21 t = 1 := c102
          exact wp_vret (pc := 134) dX12_rises_134 rfl ⟨rfl, by rw [risM, ho]; simp only [eq_false c47, eq_true c67, eq_false c102, if_true, if_false, Bool.true_eq_false, Bool.false_eq_true, reduceIte, reduceCtorEq, Bool.not_true, Bool.not_false, true_and, and_true, and_false, false_and, or_true, true_or, or_false, false_or, not_true_eq_false, not_false_eq_true] <;> exact hM, hF⟩
        · have c102 : M.2.1 21 t = 1 := c102
          refine wp_aload_n (pc := 105) dX12_rises_105 rfl rfl ?_
          refine wp_get (pc := 106) dX12_rises_106 fl_X12_66_13 hM.1 rfl ?_
          refine wp_bipush (pc := 109) (v := 20) dX12_rises_109 (by decide) ?_
          refine wp_iload_n (pc := 111) dX12_rises_111 rfl rfl ?_
          refine wp_imul (pc := 112) dX12_rises_112 ?_
          refine wp_iconst (pc := 113) (v := 0) dX12_rises_113 (by decide) ?_
          refine mp_iast (pc := 114) (k := 23) (i := (20 * t)) dX12_rises_114 hM hF rfl ⟨by simp only [nl1, nl5, nl8, nl20, pk_mul, nI_add], by omega, by decide⟩ (fun h hM hF => ?_)
          refine wp_aload_n (pc := 115) dX12_rises_115 rfl rfl ?_
          refine wp_iload_n (pc := 116) dX12_rises_116 rfl rfl ?_
          refine wp_iconst (pc := 117) (v := 0) dX12_rises_117 (by decide) ?_
          refine mp_callV (pc := 118) [_, _] dX12_rises_118 rfl cv_X12_271_13 rfl ⟨(Nat.le_of_ble_eq_true rfl), (Nat.le_of_ble_eq_true rfl)⟩ (Nat.le_of_ble_eq_true rfl) ⟨rfl, rfl⟩ (ms_granted l G x am _ _ 0 (by omega) (by decide) (by exact hk) hk5 (by exact hd0)) hM hF (fun h hM hF => ?_)
          refine wp_aload_n (pc := 121) dX12_rises_121 rfl rfl ?_
          refine wp_get (pc := 122) dX12_rises_122 fl_X12_41_13 hM.1 rfl ?_
          refine wp_iload_n (pc := 125) dX12_rises_125 rfl rfl ?_
          refine wp_iconst (pc := 126) (v := (-1)) dX12_rises_126 (by decide) ?_
          refine mp_iast (pc := 127) (k := 15) (i := t) dX12_rises_127 hM hF rfl ⟨rfl, by omega, by decide⟩ (fun h hM hF => ?_)
          refine wp_aload_n (pc := 128) dX12_rises_128 rfl rfl ?_
          refine wp_iload_n (pc := 129) dX12_rises_129 rfl rfl ?_
          refine wp_iconst (pc := 130) (v := 0) dX12_rises_130 (by decide) ?_
          refine mp_callV (pc := 131) [_, _] dX12_rises_131 rfl cv_X12_274_13 rfl ⟨(Nat.le_of_ble_eq_true rfl), (Nat.le_of_ble_eq_true rfl)⟩ (Nat.le_of_ble_eq_true rfl) ⟨rfl, rfl⟩ (ms_grants l G x am _ _ 0 (t := t) (by omega) (by decide) (by exact htj) (by exact hL) (by omega) (by omega)) hM hF (fun h hM hF => ?_)
          exact wp_vret (pc := 134) dX12_rises_134 rfl ⟨rfl, by rw [risM, ho]; simp only [eq_false c47, eq_true c67, eq_true c102, if_true, if_false, Bool.true_eq_false, Bool.false_eq_true, reduceIte, reduceCtorEq, Bool.not_true, Bool.not_false, true_and, and_true, and_false, false_and, or_true, true_or, or_false, false_or, not_true_eq_false, not_false_eq_true] <;> exact hM, hF⟩
      · skip
        refine wp_aload_n (pc := 70) dX12_rises_70 rfl rfl ?_
        refine wp_get (pc := 71) dX12_rises_71 fl_X12_41_13 hM.1 rfl ?_
        refine wp_iload_n (pc := 74) dX12_rises_74 rfl rfl ?_
        refine wp_iald (pc := 75) (i := t) dX12_rises_75 (hM.i 15 rfl) ⟨rfl, by omega, by decide⟩ ?_
        refine wp_iload_n (pc := 76) dX12_rises_76 rfl rfl ?_
        refine wp_icmp_eq (pc := 77) (tgt := 88) dX12_rises_77 (by decide) (fun c77 => ?_) (fun c77 => ?_)
        · skip
          refine wp_aload_n (pc := 88) dX12_rises_88 rfl rfl ?_
          refine wp_get (pc := 89) dX12_rises_89 fl_X12_41_13 hM.1 rfl ?_
          refine wp_iload_n (pc := 92) dX12_rises_92 rfl rfl ?_
          refine wp_iload_n (pc := 93) dX12_rises_93 rfl rfl ?_
          refine mp_iast (pc := 94) (k := 15) (i := t) dX12_rises_94 hM hF rfl ⟨rfl, by omega, by decide⟩ (fun h hM hF => ?_)
          refine wp_aload_n (pc := 95) dX12_rises_95 rfl rfl ?_
          refine wp_get (pc := 96) dX12_rises_96 fl_X12_60_13 hM.1 rfl ?_
          refine wp_iload_n (pc := 99) dX12_rises_99 rfl rfl ?_
          refine wp_iald (pc := 100) (i := t) dX12_rises_100 (hM.i 21 rfl) ⟨rfl, by omega, by decide⟩ ?_
          refine wp_iconst (pc := 101) (v := 1) dX12_rises_101 (by decide) ?_
          refine wp_icmp_ne (pc := 102) (tgt := 134) dX12_rises_102 (by decide) (fun c102 => ?_) (fun c102 => ?_)
          · have c102 : ¬ M.2.1 21 t = 1 := c102
            exact wp_vret (pc := 134) dX12_rises_134 rfl ⟨rfl, by rw [risM, ho]; simp only [eq_false c47, eq_false c67, eq_true c77, eq_false c102, if_true, if_false, Bool.true_eq_false, Bool.false_eq_true, reduceIte, reduceCtorEq, Bool.not_true, Bool.not_false, true_and, and_true, and_false, false_and, or_true, true_or, or_false, false_or, not_true_eq_false, not_false_eq_true] <;> exact hM, hF⟩
          · have c102 : M.2.1 21 t = 1 := c102
            refine wp_aload_n (pc := 105) dX12_rises_105 rfl rfl ?_
            refine wp_get (pc := 106) dX12_rises_106 fl_X12_66_13 hM.1 rfl ?_
            refine wp_bipush (pc := 109) (v := 20) dX12_rises_109 (by decide) ?_
            refine wp_iload_n (pc := 111) dX12_rises_111 rfl rfl ?_
            refine wp_imul (pc := 112) dX12_rises_112 ?_
            refine wp_iconst (pc := 113) (v := 0) dX12_rises_113 (by decide) ?_
            refine mp_iast (pc := 114) (k := 23) (i := (20 * t)) dX12_rises_114 hM hF rfl ⟨by simp only [nl1, nl5, nl8, nl20, pk_mul, nI_add], by omega, by decide⟩ (fun h hM hF => ?_)
            refine wp_aload_n (pc := 115) dX12_rises_115 rfl rfl ?_
            refine wp_iload_n (pc := 116) dX12_rises_116 rfl rfl ?_
            refine wp_iconst (pc := 117) (v := 0) dX12_rises_117 (by decide) ?_
            refine mp_callV (pc := 118) [_, _] dX12_rises_118 rfl cv_X12_271_13 rfl ⟨(Nat.le_of_ble_eq_true rfl), (Nat.le_of_ble_eq_true rfl)⟩ (Nat.le_of_ble_eq_true rfl) ⟨rfl, rfl⟩ (ms_granted l G x am _ _ 0 (by omega) (by decide) (by exact hk) hk5 (by exact hd0)) hM hF (fun h hM hF => ?_)
            refine wp_aload_n (pc := 121) dX12_rises_121 rfl rfl ?_
            refine wp_get (pc := 122) dX12_rises_122 fl_X12_41_13 hM.1 rfl ?_
            refine wp_iload_n (pc := 125) dX12_rises_125 rfl rfl ?_
            refine wp_iconst (pc := 126) (v := (-1)) dX12_rises_126 (by decide) ?_
            refine mp_iast (pc := 127) (k := 15) (i := t) dX12_rises_127 hM hF rfl ⟨rfl, by omega, by decide⟩ (fun h hM hF => ?_)
            refine wp_aload_n (pc := 128) dX12_rises_128 rfl rfl ?_
            refine wp_iload_n (pc := 129) dX12_rises_129 rfl rfl ?_
            refine wp_iconst (pc := 130) (v := 0) dX12_rises_130 (by decide) ?_
            refine mp_callV (pc := 131) [_, _] dX12_rises_131 rfl cv_X12_274_13 rfl ⟨(Nat.le_of_ble_eq_true rfl), (Nat.le_of_ble_eq_true rfl)⟩ (Nat.le_of_ble_eq_true rfl) ⟨rfl, rfl⟩ (ms_grants l G x am _ _ 0 (t := t) (by omega) (by decide) (by exact htj) (by exact hL) (by omega) (by omega)) hM hF (fun h hM hF => ?_)
            exact wp_vret (pc := 134) dX12_rises_134 rfl ⟨rfl, by rw [risM, ho]; simp only [eq_false c47, eq_false c67, eq_true c77, eq_true c102, if_true, if_false, Bool.true_eq_false, Bool.false_eq_true, reduceIte, reduceCtorEq, Bool.not_true, Bool.not_false, true_and, and_true, and_false, false_and, or_true, true_or, or_false, false_or, not_true_eq_false, not_false_eq_true] <;> exact hM, hF⟩
        · skip
          refine wp_aload_n (pc := 80) dX12_rises_80 rfl rfl ?_
          refine wp_iload_n (pc := 81) dX12_rises_81 rfl rfl ?_
          refine mp_callV (pc := 82) [_] dX12_rises_82 rfl cv_X12_260_13 rfl ⟨(Nat.le_of_ble_eq_true rfl), (Nat.le_of_ble_eq_true rfl)⟩ (Nat.le_of_ble_eq_true rfl) ⟨rfl, rfl⟩ (ms_refuses l G x am _ _ (by exact hL) (by omega) (by omega)) hM hF (fun h hM hF => ?_)
          refine wp_goto (pc := 85) (tgt := 134) dX12_rises_85 (by decide) ?_
          exact wp_vret (pc := 134) dX12_rises_134 rfl ⟨rfl, by rw [risM, ho]; simp only [eq_false c47, eq_false c67, eq_false c77, if_true, if_false, Bool.true_eq_false, Bool.false_eq_true, reduceIte, reduceCtorEq, Bool.not_true, Bool.not_false, true_and, and_true, and_false, false_and, or_true, true_or, or_false, false_or, not_true_eq_false, not_false_eq_true] <;> exact hM, hF⟩
    · skip
      refine wp_aload_n (pc := 50) dX12_rises_50 rfl rfl ?_
      refine wp_iload_n (pc := 51) dX12_rises_51 rfl rfl ?_
      refine wp_iload (pc := 52) dX12_rises_52 rfl ?_
      refine mp_callV (pc := 54) [_, _] dX12_rises_54 rfl cv_X12_282_13 rfl ⟨(Nat.le_of_ble_eq_true rfl), (Nat.le_of_ble_eq_true rfl)⟩ (Nat.le_of_ble_eq_true rfl) ⟨rfl, rfl⟩ (ms_prolongs l G x am _ _ _ (t := t) (by omega) (by omega) (by exact htj) (by exact hk) hk5 (by exact hd0) (by exact hL) (by omega) (by omega)) hM hF (fun h hM hF => ?_)
      refine wp_goto (pc := 57) (tgt := 134) dX12_rises_57 (by decide) ?_
      exact wp_vret (pc := 134) dX12_rises_134 rfl ⟨rfl, by rw [risM, ho]; simp only [eq_true c47, if_true, if_false, Bool.true_eq_false, Bool.false_eq_true, reduceIte, reduceCtorEq, Bool.not_true, Bool.not_false, true_and, and_true, and_false, false_and, or_true, true_or, or_false, false_or, not_true_eq_false, not_false_eq_true] <;> exact hM, hF⟩
theorem eq8 {K : Nat} (h : K ≤ 8) (hn : ¬ nI K = 8) : K < 8 := by
  rcases Nat.lt_or_ge K 8 with z | z
  · exact z
  · exact absurd (by rw [show K = 8 by omega]; rfl) hn
theorem unqM_same (M : MS) (t a q : Nat) : (unqM M t a q).1 = M.1 ∧ (unqM M t a q).2.2 = M.2.2 ∧ ∀ k, k ≠ 16 → k ≠ 17 → k ≠ 20 → (unqM M t a q).2.1 k = M.2.1 k := by
  unfold unqM
  split
  · refine ⟨(uqM_cnt M t a _).1, (uqM_cnt M t a _).2.1, fun k h1 h2 h3 => ?_⟩
    rw [← (uqM_cnt M t a (q - 1 - a)).2.2 k h1 h2]
    simp [sI, fu, h3]
  · exact ⟨(uqM_cnt M t a _).1, (uqM_cnt M t a _).2.1, fun k h1 h2 _ => (uqM_cnt M t a _).2.2 k h1 h2⟩
theorem ms_asks  (j : Nat) {t g k q : Nat} (ht : t < 20) (hg : M.2.1 21 t = nI g) (hg2 : g ≤ 20) (htj : M.2.1 39 j = nI t) (hk : M.1 27 = nI k) (hk5 : k < 5) (hd0 : ¬ 1000 - M.1 0 = 0) {L : Nat} (hL : M.1 35 = nI L) (hL4 : L < 400) (hj : j < 400) (hq : M.2.1 16 t = nI q) (hq2 : q ≤ 8) (hgn : gof M t (M.2.1 37 j) (nx (M.2.1 21 t)) = none → g < 20) : MSp l G x am mX12_asks [.int (nI j)] M none (askM M j t) := by
  refine MSp.intro (lv := [_, _, _, _, _, _]) (by decide) rfl (Nat.le_of_ble_eq_true rfl) (fun h0 h hM hF => ?_)
  have hgx : nx (M.2.1 21 t) = g := by rw [hg]; exact nx_nI (by omega)
  have hqx : nx (M.2.1 16 t) = q := by rw [hq]; exact nx_nI (by omega)
  refine wp_aload_n (pc := 0) dX12_asks_0 rfl rfl ?_
  refine wp_get (pc := 1) dX12_asks_1 fl_X12_109_13 hM.1 rfl ?_
  refine wp_iload_n (pc := 4) dX12_asks_4 rfl rfl ?_
  refine wp_iald (pc := 5) (i := j) dX12_asks_5 (hM.i 39 rfl) ⟨rfl, by omega, by decide⟩ ?_
  rw [htj]
  refine wp_istore_n (pc := 6) (lv' := [_, _, _, _, _, _]) dX12_asks_6 rfl (Nat.le_of_ble_eq_true rfl) rfl rfl ?_
  refine wp_aload_n (pc := 7) dX12_asks_7 rfl rfl ?_
  refine wp_get (pc := 8) dX12_asks_8 fl_X12_103_13 hM.1 rfl ?_
  refine wp_iload_n (pc := 11) dX12_asks_11 rfl rfl ?_
  refine wp_iald (pc := 12) (i := j) dX12_asks_12 (hM.i 37 rfl) ⟨rfl, by omega, by decide⟩ ?_
  refine wp_istore_n (pc := 13) (lv' := [_, _, _, _, _, _]) dX12_asks_13 rfl (Nat.le_of_ble_eq_true rfl) rfl rfl ?_
  refine wp_aload_n (pc := 14) dX12_asks_14 rfl rfl ?_
  refine wp_iload_n (pc := 15) dX12_asks_15 rfl rfl ?_
  refine wp_iload_n (pc := 16) dX12_asks_16 rfl rfl ?_
  refine mp_call (pc := 17) [_, _] dX12_asks_17 rfl cv_X12_235_13 rfl ⟨(Nat.le_of_ble_eq_true rfl), (Nat.le_of_ble_eq_true rfl)⟩ (Nat.le_of_ble_eq_true rfl) ⟨rfl, rfl⟩ (ms_grantOf l G x am _ _ _ _ (by omega) (by exact hg) hg2) hM hF (fun h hM hF => ?_)
  cases ho : gof M t (M.2.1 37 j) g with
  | some a =>
    have ha := (gof_lt ho).1
    rw [show plc (some a) = nI a from rfl]
    refine wp_iconst (pc := 20) (v := (-1)) dX12_asks_20 (by decide) ?_
    refine wp_icmp_eq (pc := 21) (tgt := 32) dX12_asks_21 (by decide) (fun z => absurd z (nI_m1 (by omega))) (fun _ => ?_)
    refine wp_aload_n (pc := 24) dX12_asks_24 rfl rfl ?_
    refine wp_iload_n (pc := 25) dX12_asks_25 rfl rfl ?_
    refine mp_callV (pc := 26) [_] dX12_asks_26 rfl cv_X12_260_13 rfl ⟨(Nat.le_of_ble_eq_true rfl), (Nat.le_of_ble_eq_true rfl)⟩ (Nat.le_of_ble_eq_true rfl) ⟨rfl, rfl⟩ (ms_refuses l G x am _ _ (by exact hL) (by omega) (by omega)) hM hF (fun h hM hF => ?_)
    refine wp_goto (pc := 29) (tgt := 234) dX12_asks_29 (by decide) ?_
    exact wp_vret (pc := 234) dX12_asks_234 rfl ⟨rfl, by unfold askM; rw [hgx, if_pos (by rw [ho]; exact fun z => by cases z)]; exact hM, hF⟩
  | none =>
    have hg20 : g < 20 := hgn (by rw [hgx]; exact ho)
    have hA : askM M j t = if fts M t (M.2.1 37 j) (M.2.1 40 j) (M.2.1 41 j) = true then askG (askQ M j t) j t else if M.2.1 12 t = 4 then (if qat M t (M.2.1 37 j) q = none then (if M.2.1 16 t = 8 then rfsM M j else sI (sI M 17 (8 * t + q) (M.2.1 37 j)) 16 t (M.2.1 16 t + 1)) else M) else rfsM M j := by unfold askM; rw [hgx, hqx, if_neg (fun z => z ho)]
    have k74 : ∀ (M1 : MS) (d4 : Int32) (h : Hp), M1.2.1 21 t = nI g → M1.2.1 37 j = M.2.1 37 j → M1.2.1 39 j = nI t → M1.1 27 = nI k → M1.1 0 = M.1 0 → M1.1 35 = nI L → InM x am M1 h → Fr x am h0 h → (InM x am (askG M1 j t) = InM x am (askM M j t)) → wp l G mX12_asks (zM G mX12_asks (fun w h' => w = none ∧ InM x am (askM M j t) h' ∧ Fr x am h0 h')) 74 [some (.ref x), some (.int (nI j)), some (.int (nI t)), some (.int (M.2.1 37 j)), some (.int d4), none] [] h 0 0 := by
      intro M1 d4 h hg1 hw1 htj1 hk1 hd1 hL1 hM hF hres
      have hg1x : nx (M1.2.1 21 t) = g := by rw [hg1]; exact nx_nI (by omega)
      have hd1' : ¬ 1000 - M1.1 0 = 0 := by rw [hd1]; exact hd0
      refine wp_aload_n (pc := 74) dX12_asks_74 rfl rfl ?_
      refine wp_get (pc := 75) dX12_asks_75 fl_X12_60_13 hM.1 rfl ?_
      refine wp_iload_n (pc := 78) dX12_asks_78 rfl rfl ?_
      refine wp_iald (pc := 79) (i := t) dX12_asks_79 (hM.i 21 rfl) ⟨rfl, by omega, by decide⟩ ?_
      rw [hg1]
      refine wp_istore (pc := 80) (lv' := [_, _, _, _, _, _]) dX12_asks_80 (Nat.le_of_ble_eq_true rfl) rfl rfl ?_
      refine wp_aload_n (pc := 82) dX12_asks_82 rfl rfl ?_
      refine wp_get (pc := 83) dX12_asks_83 fl_X12_60_13 hM.1 rfl ?_
      refine wp_iload_n (pc := 86) dX12_asks_86 rfl rfl ?_
      refine wp_dup2 (pc := 87) dX12_asks_87 rfl rfl ?_
      refine wp_iald (pc := 88) (i := t) dX12_asks_88 (hM.i 21 rfl) ⟨rfl, by omega, by decide⟩ ?_
      refine wp_iconst (pc := 89) (v := 1) dX12_asks_89 (by decide) ?_
      refine wp_iadd (pc := 90) dX12_asks_90 ?_
      refine mp_iast (pc := 91) (k := 21) (i := t) dX12_asks_91 hM hF rfl ⟨rfl, by omega, by decide⟩ (fun h hM hF => ?_)
      refine wp_aload_n (pc := 92) dX12_asks_92 rfl rfl ?_
      refine wp_get (pc := 93) dX12_asks_93 fl_X12_63_13 hM.1 rfl ?_
      refine wp_bipush (pc := 96) (v := 20) dX12_asks_96 (by decide) ?_
      refine wp_iload_n (pc := 98) dX12_asks_98 rfl rfl ?_
      refine wp_imul (pc := 99) dX12_asks_99 ?_
      refine wp_iload (pc := 100) dX12_asks_100 rfl ?_
      refine wp_iadd (pc := 102) dX12_asks_102 ?_
      refine wp_iload_n (pc := 103) dX12_asks_103 rfl rfl ?_
      refine mp_iast (pc := 104) (k := 22) (i := ((20 * t) + g)) dX12_asks_104 hM hF rfl ⟨by simp only [nl1, nl5, nl8, nl20, pk_mul, nI_add], by omega, by decide⟩ (fun h hM hF => ?_)
      refine wp_aload_n (pc := 105) dX12_asks_105 rfl rfl ?_
      refine wp_get (pc := 106) dX12_asks_106 fl_X12_66_13 hM.1 rfl ?_
      refine wp_bipush (pc := 109) (v := 20) dX12_asks_109 (by decide) ?_
      refine wp_iload_n (pc := 111) dX12_asks_111 rfl rfl ?_
      refine wp_imul (pc := 112) dX12_asks_112 ?_
      refine wp_iload (pc := 113) dX12_asks_113 rfl ?_
      refine wp_iadd (pc := 115) dX12_asks_115 ?_
      refine wp_aload_n (pc := 116) dX12_asks_116 rfl rfl ?_
      refine wp_get (pc := 117) dX12_asks_117 fl_X12_112_13 hM.1 rfl ?_
      refine wp_iload_n (pc := 120) dX12_asks_120 rfl rfl ?_
      refine wp_iald (pc := 121) (i := j) dX12_asks_121 (hM.i 40 rfl) ⟨rfl, by omega, by decide⟩ ?_
      refine mp_iast (pc := 122) (k := 23) (i := ((20 * t) + g)) dX12_asks_122 hM hF rfl ⟨by simp only [nl1, nl5, nl8, nl20, pk_mul, nI_add], by omega, by decide⟩ (fun h hM hF => ?_)
      refine wp_aload_n (pc := 123) dX12_asks_123 rfl rfl ?_
      refine wp_get (pc := 124) dX12_asks_124 fl_X12_69_13 hM.1 rfl ?_
      refine wp_bipush (pc := 127) (v := 20) dX12_asks_127 (by decide) ?_
      refine wp_iload_n (pc := 129) dX12_asks_129 rfl rfl ?_
      refine wp_imul (pc := 130) dX12_asks_130 ?_
      refine wp_iload (pc := 131) dX12_asks_131 rfl ?_
      refine wp_iadd (pc := 133) dX12_asks_133 ?_
      refine wp_aload_n (pc := 134) dX12_asks_134 rfl rfl ?_
      refine wp_get (pc := 135) dX12_asks_135 fl_X12_115_13 hM.1 rfl ?_
      refine wp_iload_n (pc := 138) dX12_asks_138 rfl rfl ?_
      refine wp_iald (pc := 139) (i := j) dX12_asks_139 (hM.i 41 rfl) ⟨rfl, by omega, by decide⟩ ?_
      refine mp_iast (pc := 140) (k := 24) (i := ((20 * t) + g)) dX12_asks_140 hM hF rfl ⟨by simp only [nl1, nl5, nl8, nl20, pk_mul, nI_add], by omega, by decide⟩ (fun h hM hF => ?_)
      refine wp_aload_n (pc := 141) dX12_asks_141 rfl rfl ?_
      refine wp_iload_n (pc := 142) dX12_asks_142 rfl rfl ?_
      refine wp_iload (pc := 143) dX12_asks_143 rfl ?_
      refine mp_callV (pc := 145) [_, _] dX12_asks_145 rfl cv_X12_271_13 rfl ⟨(Nat.le_of_ble_eq_true rfl), (Nat.le_of_ble_eq_true rfl)⟩ (Nat.le_of_ble_eq_true rfl) ⟨rfl, rfl⟩ (ms_granted l G x am _ _ _ (by omega) (by omega) (by exact hk1) hk5 (by exact hd1')) hM hF (fun h hM hF => ?_)
      refine wp_aload_n (pc := 148) dX12_asks_148 rfl rfl ?_
      refine wp_iload_n (pc := 149) dX12_asks_149 rfl rfl ?_
      refine wp_iload (pc := 150) dX12_asks_150 rfl ?_
      refine mp_callV (pc := 152) [_, _] dX12_asks_152 rfl cv_X12_274_13 rfl ⟨(Nat.le_of_ble_eq_true rfl), (Nat.le_of_ble_eq_true rfl)⟩ (Nat.le_of_ble_eq_true rfl) ⟨rfl, rfl⟩ (ms_grants l G x am _ _ _ (t := t) (by omega) (by omega) (by exact htj1) (by exact hL1) (by omega) (by omega)) hM hF (fun h hM hF => ?_)
      refine wp_goto (pc := 155) (tgt := 234) dX12_asks_155 (by decide) ?_
      exact wp_vret (pc := 234) dX12_asks_234 rfl ⟨rfl, by rw [← hres]; unfold askG; rw [hg1x, hw1]; exact hM, hF⟩
    refine wp_iconst (pc := 20) (v := (-1)) dX12_asks_20 (by decide) ?_
    refine wp_icmp_eq (pc := 21) (tgt := 32) dX12_asks_21 (by decide) (fun _ => ?_) (fun z => absurd rfl z)
    refine wp_aload_n (pc := 32) dX12_asks_32 rfl rfl ?_
    refine wp_iload_n (pc := 33) dX12_asks_33 rfl rfl ?_
    refine wp_iload_n (pc := 34) dX12_asks_34 rfl rfl ?_
    refine wp_aload_n (pc := 35) dX12_asks_35 rfl rfl ?_
    refine wp_get (pc := 36) dX12_asks_36 fl_X12_112_13 hM.1 rfl ?_
    refine wp_iload_n (pc := 39) dX12_asks_39 rfl rfl ?_
    refine wp_iald (pc := 40) (i := j) dX12_asks_40 (hM.i 40 rfl) ⟨rfl, by omega, by decide⟩ ?_
    refine wp_aload_n (pc := 41) dX12_asks_41 rfl rfl ?_
    refine wp_get (pc := 42) dX12_asks_42 fl_X12_115_13 hM.1 rfl ?_
    refine wp_iload_n (pc := 45) dX12_asks_45 rfl rfl ?_
    refine wp_iald (pc := 46) (i := j) dX12_asks_46 (hM.i 41 rfl) ⟨rfl, by omega, by decide⟩ ?_
    refine mp_call (pc := 47) [_, _, _, _] dX12_asks_47 rfl cv_X12_264_13 rfl ⟨(Nat.le_of_ble_eq_true rfl), (Nat.le_of_ble_eq_true rfl)⟩ (Nat.le_of_ble_eq_true rfl) ⟨rfl, rfl⟩ (ms_fits l G x am _ _ _ _ _ (by omega) (by exact hg) hg2) hM hF (fun h hM hF => ?_)
    refine wp_ifB_eq (pc := 50) (tgt := 158) dX12_asks_50 (by decide) (fun c50 => ?_) (fun c50 => ?_)
    · skip
      refine wp_aload_n (pc := 158) dX12_asks_158 rfl rfl ?_
      refine wp_get (pc := 159) dX12_asks_159 fl_X12_32_13 hM.1 rfl ?_
      refine wp_iload_n (pc := 162) dX12_asks_162 rfl rfl ?_
      refine wp_iald (pc := 163) (i := t) dX12_asks_163 (hM.i 12 rfl) ⟨rfl, by omega, by decide⟩ ?_
      refine wp_iconst (pc := 164) (v := 4) dX12_asks_164 (by decide) ?_
      refine wp_icmp_ne (pc := 165) (tgt := 189) dX12_asks_165 (by decide) (fun c165 => ?_) (fun c165 => ?_)
      · skip
        refine wp_aload_n (pc := 189) dX12_asks_189 rfl rfl ?_
        refine wp_iload_n (pc := 190) dX12_asks_190 rfl rfl ?_
        refine mp_callV (pc := 191) [_] dX12_asks_191 rfl cv_X12_260_13 rfl ⟨(Nat.le_of_ble_eq_true rfl), (Nat.le_of_ble_eq_true rfl)⟩ (Nat.le_of_ble_eq_true rfl) ⟨rfl, rfl⟩ (ms_refuses l G x am _ _ (by exact hL) (by omega) (by omega)) hM hF (fun h hM hF => ?_)
        refine wp_goto (pc := 194) (tgt := 234) dX12_asks_194 (by decide) ?_
        exact wp_vret (pc := 234) dX12_asks_234 rfl ⟨rfl, by rw [hA]; simp only [c50, eq_false c165, if_true, if_false, Bool.true_eq_false, Bool.false_eq_true, reduceIte, reduceCtorEq, Bool.not_true, Bool.not_false, true_and, and_true, and_false, false_and, or_true, true_or, or_false, false_or, not_true_eq_false, not_false_eq_true] <;> exact hM, hF⟩
      · skip
        refine wp_aload_n (pc := 168) dX12_asks_168 rfl rfl ?_
        refine wp_iload_n (pc := 169) dX12_asks_169 rfl rfl ?_
        refine wp_iload_n (pc := 170) dX12_asks_170 rfl rfl ?_
        refine mp_call (pc := 171) [_, _] dX12_asks_171 rfl cv_X12_268_13 rfl ⟨(Nat.le_of_ble_eq_true rfl), (Nat.le_of_ble_eq_true rfl)⟩ (Nat.le_of_ble_eq_true rfl) ⟨rfl, rfl⟩ (ms_queuedAt l G x am _ _ _ _ (by omega) (by exact hq) hq2) hM hF (fun h hM hF => ?_)
        cases hb : qat M t (M.2.1 37 j) q with
        | some b =>
          have hbl := (qat_lt hb).1
          rw [show plc (some b) = nI b from rfl]
          refine wp_iconst (pc := 174) (v := (-1)) dX12_asks_174 (by decide) ?_
          refine wp_icmp_ne (pc := 175) (tgt := 197) dX12_asks_175 (by decide) (fun _ => ?_) (fun z => absurd z (nI_m1 (by omega)))
          refine wp_aload_n (pc := 197) dX12_asks_197 rfl rfl ?_
          refine wp_iload_n (pc := 198) dX12_asks_198 rfl rfl ?_
          refine wp_iload_n (pc := 199) dX12_asks_199 rfl rfl ?_
          refine mp_call (pc := 200) [_, _] dX12_asks_200 rfl cv_X12_268_13 rfl ⟨(Nat.le_of_ble_eq_true rfl), (Nat.le_of_ble_eq_true rfl)⟩ (Nat.le_of_ble_eq_true rfl) ⟨rfl, rfl⟩ (ms_queuedAt l G x am _ _ _ _ (by omega) (by exact hq) hq2) hM hF (fun h hM hF => ?_)
          refine wp_iconst (pc := 203) (v := (-1)) dX12_asks_203 (by decide) ?_
          refine wp_icmp_ne (pc := 204) (tgt := 234) dX12_asks_204 (by decide) (fun _ => ?_) (fun z => absurd z (by rw [hb]; exact nI_m1 (by omega)))
          exact wp_vret (pc := 234) dX12_asks_234 rfl ⟨rfl, by rw [hA]; simp only [hb, c50, eq_true c165, if_true, if_false, Bool.true_eq_false, Bool.false_eq_true, reduceIte, reduceCtorEq, Bool.not_true, Bool.not_false, true_and, and_true, and_false, false_and, or_true, true_or, or_false, false_or, not_true_eq_false, not_false_eq_true] <;> exact hM, hF⟩
        | none =>
          refine wp_iconst (pc := 174) (v := (-1)) dX12_asks_174 (by decide) ?_
          refine wp_icmp_ne (pc := 175) (tgt := 197) dX12_asks_175 (by decide) (fun z => absurd rfl z) (fun _ => ?_)
          refine wp_aload_n (pc := 178) dX12_asks_178 rfl rfl ?_
          refine wp_get (pc := 179) dX12_asks_179 fl_X12_44_13 hM.1 rfl ?_
          refine wp_iload_n (pc := 182) dX12_asks_182 rfl rfl ?_
          refine wp_iald (pc := 183) (i := t) dX12_asks_183 (hM.i 16 rfl) ⟨rfl, by omega, by decide⟩ ?_
          refine wp_bipush (pc := 184) (v := 8) dX12_asks_184 (by decide) ?_
          refine wp_icmp_ne (pc := 186) (tgt := 197) dX12_asks_186 (by decide) (fun c186 => ?_) (fun c186 => ?_)
          · have hq8 : q < 8 := eq8 hq2 (by rw [← hq]; exact c186)
            refine wp_aload_n (pc := 197) dX12_asks_197 rfl rfl ?_
            refine wp_iload_n (pc := 198) dX12_asks_198 rfl rfl ?_
            refine wp_iload_n (pc := 199) dX12_asks_199 rfl rfl ?_
            refine mp_call (pc := 200) [_, _] dX12_asks_200 rfl cv_X12_268_13 rfl ⟨(Nat.le_of_ble_eq_true rfl), (Nat.le_of_ble_eq_true rfl)⟩ (Nat.le_of_ble_eq_true rfl) ⟨rfl, rfl⟩ (ms_queuedAt l G x am _ _ _ _ (by omega) (by exact hq) hq2) hM hF (fun h hM hF => ?_)
            refine wp_iconst (pc := 203) (v := (-1)) dX12_asks_203 (by decide) ?_
            refine wp_icmp_ne (pc := 204) (tgt := 234) dX12_asks_204 (by decide) (fun z => absurd (by rw [hb]; rfl) z) (fun _ => ?_)
            refine wp_aload_n (pc := 207) dX12_asks_207 rfl rfl ?_
            refine wp_get (pc := 208) dX12_asks_208 fl_X12_47_13 hM.1 rfl ?_
            refine wp_bipush (pc := 211) (v := 8) dX12_asks_211 (by decide) ?_
            refine wp_iload_n (pc := 213) dX12_asks_213 rfl rfl ?_
            refine wp_imul (pc := 214) dX12_asks_214 ?_
            refine wp_aload_n (pc := 215) dX12_asks_215 rfl rfl ?_
            refine wp_get (pc := 216) dX12_asks_216 fl_X12_44_13 hM.1 rfl ?_
            refine wp_iload_n (pc := 219) dX12_asks_219 rfl rfl ?_
            refine wp_iald (pc := 220) (i := t) dX12_asks_220 (hM.i 16 rfl) ⟨rfl, by omega, by decide⟩ ?_
            rw [hq]
            refine wp_iadd (pc := 221) dX12_asks_221 ?_
            refine wp_iload_n (pc := 222) dX12_asks_222 rfl rfl ?_
            refine mp_iast (pc := 223) (k := 17) (i := ((8 * t) + q)) dX12_asks_223 hM hF rfl ⟨by simp only [nl1, nl5, nl8, nl20, pk_mul, nI_add], by omega, by decide⟩ (fun h hM hF => ?_)
            refine wp_aload_n (pc := 224) dX12_asks_224 rfl rfl ?_
            refine wp_get (pc := 225) dX12_asks_225 fl_X12_44_13 hM.1 rfl ?_
            refine wp_iload_n (pc := 228) dX12_asks_228 rfl rfl ?_
            refine wp_dup2 (pc := 229) dX12_asks_229 rfl rfl ?_
            refine wp_iald (pc := 230) (i := t) dX12_asks_230 (hM.i 16 rfl) ⟨rfl, by omega, by decide⟩ ?_
            refine wp_iconst (pc := 231) (v := 1) dX12_asks_231 (by decide) ?_
            refine wp_iadd (pc := 232) dX12_asks_232 ?_
            refine mp_iast (pc := 233) (k := 16) (i := t) dX12_asks_233 hM hF rfl ⟨rfl, by omega, by decide⟩ (fun h hM hF => ?_)
            exact wp_vret (pc := 234) dX12_asks_234 rfl ⟨rfl, by rw [hA]; simp only [hb, c50, eq_true c165, eq_false c186, if_true, if_false, Bool.true_eq_false, Bool.false_eq_true, reduceIte, reduceCtorEq, Bool.not_true, Bool.not_false, true_and, and_true, and_false, false_and, or_true, true_or, or_false, false_or, not_true_eq_false, not_false_eq_true] <;> exact hM, hF⟩
          · skip
            refine wp_aload_n (pc := 189) dX12_asks_189 rfl rfl ?_
            refine wp_iload_n (pc := 190) dX12_asks_190 rfl rfl ?_
            refine mp_callV (pc := 191) [_] dX12_asks_191 rfl cv_X12_260_13 rfl ⟨(Nat.le_of_ble_eq_true rfl), (Nat.le_of_ble_eq_true rfl)⟩ (Nat.le_of_ble_eq_true rfl) ⟨rfl, rfl⟩ (ms_refuses l G x am _ _ (by exact hL) (by omega) (by omega)) hM hF (fun h hM hF => ?_)
            refine wp_goto (pc := 194) (tgt := 234) dX12_asks_194 (by decide) ?_
            exact wp_vret (pc := 234) dX12_asks_234 rfl ⟨rfl, by rw [hA]; simp only [hb, c50, eq_true c165, eq_true c186, if_true, if_false, Bool.true_eq_false, Bool.false_eq_true, reduceIte, reduceCtorEq, Bool.not_true, Bool.not_false, true_and, and_true, and_false, false_and, or_true, true_or, or_false, false_or, not_true_eq_false, not_false_eq_true] <;> exact hM, hF⟩
    · skip
      refine wp_aload_n (pc := 53) dX12_asks_53 rfl rfl ?_
      refine wp_iload_n (pc := 54) dX12_asks_54 rfl rfl ?_
      refine wp_iload_n (pc := 55) dX12_asks_55 rfl rfl ?_
      refine mp_call (pc := 56) [_, _] dX12_asks_56 rfl cv_X12_268_13 rfl ⟨(Nat.le_of_ble_eq_true rfl), (Nat.le_of_ble_eq_true rfl)⟩ (Nat.le_of_ble_eq_true rfl) ⟨rfl, rfl⟩ (ms_queuedAt l G x am _ _ _ _ (by omega) (by exact hq) hq2) hM hF (fun h hM hF => ?_)
      have hAf : askM M j t = askG (askQ M j t) j t := by rw [hA]; simp only [c50, if_true, if_false, Bool.true_eq_false, Bool.false_eq_true, reduceIte, reduceCtorEq, Bool.not_true, Bool.not_false, true_and, and_true, and_false, false_and, or_true, true_or, or_false, false_or, not_true_eq_false, not_false_eq_true]
      cases hb : qat M t (M.2.1 37 j) q with
      | some b =>
        have hbl := (qat_lt hb).1
        rw [show plc (some b) = nI b from rfl]
        have hAq : askQ M j t = unqM M t b q := by unfold askQ; rw [hqx, hb]
        refine wp_istore (pc := 59) (lv' := [_, _, _, _, _, _]) dX12_asks_59 (Nat.le_of_ble_eq_true rfl) rfl rfl ?_
        refine wp_iload (pc := 61) dX12_asks_61 rfl ?_
        refine wp_iconst (pc := 63) (v := (-1)) dX12_asks_63 (by decide) ?_
        refine wp_icmp_eq (pc := 64) (tgt := 74) dX12_asks_64 (by decide) (fun z => absurd z (nI_m1 (by omega))) (fun _ => ?_)
        refine wp_aload_n (pc := 67) dX12_asks_67 rfl rfl ?_
        refine wp_iload_n (pc := 68) dX12_asks_68 rfl rfl ?_
        refine wp_iload (pc := 69) dX12_asks_69 rfl ?_
        refine mp_callV (pc := 71) [_, _] dX12_asks_71 rfl cv_X12_239_13 rfl ⟨(Nat.le_of_ble_eq_true rfl), (Nat.le_of_ble_eq_true rfl)⟩ (Nat.le_of_ble_eq_true rfl) ⟨rfl, rfl⟩ (ms_unqueue l G x am _ _ _ _ (by omega) (by exact hq) hq2 hbl) hM hF (fun h hM hF => ?_)
        obtain ⟨u1, u2, u3⟩ := unqM_same M t b q
        exact k74 _ _ h (by rw [u3 21 (by decide) (by decide) (by decide)]; exact hg) (by rw [u3 37 (by decide) (by decide) (by decide)]) (by rw [u3 39 (by decide) (by decide) (by decide)]; exact htj) (by rw [u1]; exact hk) (by rw [u1]) (by rw [u1]; exact hL) hM hF (by rw [hAf, hAq])
      | none =>
        have hAq : askQ M j t = M := by unfold askQ; rw [hqx, hb]
        refine wp_istore (pc := 59) (lv' := [_, _, _, _, _, _]) dX12_asks_59 (Nat.le_of_ble_eq_true rfl) rfl rfl ?_
        refine wp_iload (pc := 61) dX12_asks_61 rfl ?_
        refine wp_iconst (pc := 63) (v := (-1)) dX12_asks_63 (by decide) ?_
        refine wp_icmp_eq (pc := 64) (tgt := 74) dX12_asks_64 (by decide) (fun _ => ?_) (fun z => absurd rfl z)
        exact k74 M _ h hg rfl htj hk rfl hL hM hF (by rw [hAf, hAq])
end M6
