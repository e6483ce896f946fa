/-! ===== the class: what is read ===== -/
theorem fin_out {v lo hi : Int32} (h : v < lo ∨ hi < v) : fin v lo hi = false := by
  unfold fin
  by_cases h1 : v < lo
  · rw [if_pos h1]
  · rw [if_neg h1, if_pos (h.resolve_left h1)]
/-- what holds of a thing -/
def thI (M : MS) (t : Nat) : Prop := M.2.1 21 t = nI (nx (M.2.1 21 t)) ∧ nx (M.2.1 21 t) ≤ 20 ∧ M.2.1 16 t = nI (nx (M.2.1 16 t)) ∧ nx (M.2.1 16 t) ≤ 8 ∧ (¬ M.2.1 20 t = 0 → 0 < nx (M.2.1 16 t)) ∧ (¬ M.2.1 12 t = 4 → M.2.1 16 t = 0 ∧ M.2.1 20 t = 0) ∧ (¬ M.2.1 12 t = 3 → M.2.1 15 t = -1) ∧ (¬ M.2.1 12 t = 2 → M.2.1 14 t = 0)
theorem tci_ne {a b : Int32} (hb : b = 2 ∨ b = 3 ∨ b = 4) (h : ¬ a = b) : tci a ≠ tci b := by
  intro e
  rcases hb with rfl | rfl | rfl <;> (unfold tci at e; revert e; repeat' split) <;> simp_all
theorem wp_instT {l : Launch} {G : WG} {μ : MI} {Z : WZ} {pc : Nat} {lv : List (Option Value)} {st : List Value} {h : Hp} {rc rs idx b : Nat} {κ : Int32} (κ0 : Int32) {fs : List Value} (hd : decode (mC μ) pc = .ok (.instanceof idx, 3)) (hc : h b = some (oB (tci κ) fs)) (hk : (κ0 = 2 ∨ κ0 = 3 ∨ κ0 = 4) ∧ castOK (mY μ).cls idx (tci κ0) ∧ ∀ ci, isT ci → ci ≠ tci κ0 → castNo (mY μ).cls idx ci) (kt : κ = κ0 → wp l G μ Z (pc + 3) lv (.int 1 :: st) h rc rs) (kf : ¬ κ = κ0 → wp l G μ Z (pc + 3) lv (.int 0 :: st) h rc rs) : wp l G μ Z pc lv (.ref b :: st) h rc rs := by
  obtain ⟨h0, h1, h2⟩ := hk
  by_cases e : κ = κ0
  · exact wp_instY hd hc (e ▸ h1) (kt e)
  · exact wp_instNo hd hc (h2 _ (tci_lt κ) (tci_ne h0 e)) (kf e)
theorem it_X11_203 : ((3 : Int32) = 2 ∨ (3 : Int32) = 3 ∨ (3 : Int32) = 4) ∧ castOK RX11 203 (tci 3) ∧ ∀ ci, isT ci → ci ≠ tci 3 → castNo RX11 203 ci := by
  refine ⟨by decide, ca_X11_203_7, ?_⟩
  rintro ci (rfl | rfl | rfl | rfl | rfl) hn
  · exact cx_X11_203_8
  · exact cx_X11_203_1
  · exact absurd rfl hn
  · exact cx_X11_203_10
  · exact cx_X11_203_5
theorem it_X11_277 : ((2 : Int32) = 2 ∨ (2 : Int32) = 3 ∨ (2 : Int32) = 4) ∧ castOK RX11 277 (tci 2) ∧ ∀ ci, isT ci → ci ≠ tci 2 → castNo RX11 277 ci := by
  refine ⟨by decide, ca_X11_277_1, ?_⟩
  rintro ci (rfl | rfl | rfl | rfl | rfl) hn
  · exact cx_X11_277_8
  · exact absurd rfl hn
  · exact cx_X11_277_7
  · exact cx_X11_277_10
  · exact cx_X11_277_5
theorem it_X11_285 : ((4 : Int32) = 2 ∨ (4 : Int32) = 3 ∨ (4 : Int32) = 4) ∧ castOK RX11 285 (tci 4) ∧ ∀ ci, isT ci → ci ≠ tci 4 → castNo RX11 285 ci := by
  refine ⟨by decide, ca_X11_285_10, ?_⟩
  rintro ci (rfl | rfl | rfl | rfl | rfl) hn
  · exact cx_X11_285_8
  · exact cx_X11_285_1
  · exact cx_X11_285_7
  · exact absurd rfl hn
  · exact cx_X11_285_5
section RA6
variable {G : WG} {hp h : Hp} {A : AD} {M : MS}
theorem RH.thC (hR : RH G hp A M h) {i : Nat} (hv : i < nx (M.1 11)) (hk : M.2.1 12 i = 2) : h (A.1 7 i) = some (oB 1 [.int (M.2.1 12 i), .int (M.2.1 13 i), .int (lng M i), .ref (A.1 1 (i + 4)), .long (M.2.2 18 i), .int (M.2.1 14 i)]) := by
  have e := hR.th hv
  unfold tEx at e
  rw [if_pos hk] at e
  rw [hk] at e ⊢
  exact e
theorem RH.thR (hR : RH G hp A M h) {i : Nat} (hv : i < nx (M.1 11)) (hk : M.2.1 12 i = 3) : h (A.1 7 i) = some (oB 7 [.int (M.2.1 12 i), .int (M.2.1 13 i), .int (lng M i), .ref (A.1 1 (i + 4)), .long (M.2.2 18 i), .int (M.2.1 15 i)]) := by
  have e := hR.th hv
  unfold tEx at e
  rw [hk, if_neg (by decide), if_pos rfl] at e
  rw [hk]
  exact e
theorem RH.thW (hR : RH G hp A M h) {i : Nat} (hv : i < nx (M.1 11)) (hk : M.2.1 12 i = 4) : h (A.1 7 i) = some (oB 10 [.int (M.2.1 12 i), .int (M.2.1 13 i), .int (lng M i), .ref (A.1 1 (i + 4)), .long (M.2.2 18 i), .ref (A.1 10 i), .int (M.2.1 16 i), .int (M.2.1 20 i), .long (A.2.2.2 i)]) := by
  have e := hR.th hv
  unfold tEx at e
  rw [hk, if_neg (by decide), if_neg (by decide), if_pos rfl] at e
  rw [hk]
  exact e
end RA6
section K6
variable (l : Launch) (G : WG) {hp h : Hp} {A : AD} {M : MS}
theorem k_letter (v what : Int32) (hR : RH G hp A M h) (hb : bnd M) : SpP l G mX11_letter [.ref (A.1 0 0), .int v, .int what] h (.int (f_letter M v what)) := by
  refine Sp.intro (lv := [_, _, _, _]) (by decide) rfl (Nat.le_of_ble_eq_true rfl) ?_
  refine wp_widen (rc' := 0) (rs' := 0) (Nat.le_refl _) (Nat.le_refl _) ?_
  have hb9 := hb
  unfold bnd at hb9
  refine wp_aload_n (pc := 0) dX11_letter_0 rfl rfl ?_
  refine wp_iload_n (pc := 1) dX11_letter_1 rfl rfl ?_
  refine wc_VP (pc := 2) (μ2 := mX11_letterAt) (rc := 0) (rs := 0) [_] dX11_letter_2 rfl hR.bd rfl cv_X11_205_12 rfl ⟨(Nat.le_of_ble_eq_true rfl), (Nat.le_of_ble_eq_true rfl)⟩ (Nat.le_of_ble_eq_true rfl) (c_letterAt l G _ hR hb) ?_
  refine wp_astore_nQ (pc := 5) (lv' := [_, _, _, _]) dX11_letter_5 rfl (Nat.le_of_ble_eq_true rfl) rfl rfl ?_
  refine wp_aload_nQ (pc := 6) dX11_letter_6 rfl rfl ?_
  refine wp_ifnonnull (pc := 7) (tgt := 13) dX11_letter_7 (by decide) (fun a7 c7 => ?_) (fun c7 => ?_)
  · obtain ⟨j, hj, rfl, rfl⟩ := oAt_s c7 (by omega)
    rw [oAt_t hj (by omega)]
    have hix := isIx_nI hj (show nx (M.1 35) < 2 ^ 31 by omega)
    have e1 : nx (nI j) = j := nx_nI (by omega)
    refine wp_iload_n (pc := 13) dX11_letter_13 rfl rfl ?_
    refine wp_tsw_0_6 (pc := 14) dX11_letter_14 (t0 := 56) (t1 := 61) (t2 := 66) (t3 := 71) (t4 := 76) (t5 := 81) (t6 := 86) (td := 91) (by decide) (by decide) (by decide) (by decide) (by decide) (by decide) (by decide) (by decide) (fun c14 => ?_) (fun c14 => ?_) (fun c14 => ?_) (fun c14 => ?_) (fun c14 => ?_) (fun c14 => ?_) (fun c14 => ?_) (fun c14 => ?_)
    · skip
      refine wp_aload_n (pc := 56) dX11_letter_56 rfl rfl ?_
      refine wp_get (pc := 57) dX11_letter_57 fl_X11_221_3 (hR.lt hj) rfl ?_
      exact wp_iret (pc := 60) dX11_letter_60 rfl ⟨by subst c14; simp only [f_letter, hix, e1, if_true, if_false, Bool.true_eq_false, Bool.false_eq_true, reduceIte, reduceCtorEq, Bool.not_true, Bool.not_false, true_and, and_true, and_false, false_and, or_true, true_or, or_false, false_or, not_true_eq_false, not_false_eq_true] <;> rfl, rfl⟩
    · skip
      refine wp_aload_n (pc := 61) dX11_letter_61 rfl rfl ?_
      refine wp_get (pc := 62) dX11_letter_62 fl_X11_224_3 (hR.lt hj) rfl ?_
      exact wp_iret (pc := 65) dX11_letter_65 rfl ⟨by subst c14; simp only [f_letter, hix, e1, if_true, if_false, Bool.true_eq_false, Bool.false_eq_true, reduceIte, reduceCtorEq, Bool.not_true, Bool.not_false, true_and, and_true, and_false, false_and, or_true, true_or, or_false, false_or, not_true_eq_false, not_false_eq_true] <;> rfl, rfl⟩
    · skip
      refine wp_aload_n (pc := 66) dX11_letter_66 rfl rfl ?_
      refine wp_get (pc := 67) dX11_letter_67 fl_X11_227_3 (hR.lt hj) rfl ?_
      exact wp_iret (pc := 70) dX11_letter_70 rfl ⟨by subst c14; simp only [f_letter, hix, e1, if_true, if_false, Bool.true_eq_false, Bool.false_eq_true, reduceIte, reduceCtorEq, Bool.not_true, Bool.not_false, true_and, and_true, and_false, false_and, or_true, true_or, or_false, false_or, not_true_eq_false, not_false_eq_true] <;> rfl, rfl⟩
    · skip
      refine wp_aload_n (pc := 71) dX11_letter_71 rfl rfl ?_
      refine wp_get (pc := 72) dX11_letter_72 fl_X11_230_3 (hR.lt hj) rfl ?_
      exact wp_iret (pc := 75) dX11_letter_75 rfl ⟨by subst c14; simp only [f_letter, hix, e1, if_true, if_false, Bool.true_eq_false, Bool.false_eq_true, reduceIte, reduceCtorEq, Bool.not_true, Bool.not_false, true_and, and_true, and_false, false_and, or_true, true_or, or_false, false_or, not_true_eq_false, not_false_eq_true] <;> rfl, rfl⟩
    · skip
      refine wp_aload_n (pc := 76) dX11_letter_76 rfl rfl ?_
      refine wp_get (pc := 77) dX11_letter_77 fl_X11_233_3 (hR.lt hj) rfl ?_
      exact wp_iret (pc := 80) dX11_letter_80 rfl ⟨by subst c14; simp only [f_letter, hix, e1, if_true, if_false, Bool.true_eq_false, Bool.false_eq_true, reduceIte, reduceCtorEq, Bool.not_true, Bool.not_false, true_and, and_true, and_false, false_and, or_true, true_or, or_false, false_or, not_true_eq_false, not_false_eq_true] <;> rfl, rfl⟩
    · skip
      refine wp_aload_n (pc := 81) dX11_letter_81 rfl rfl ?_
      refine wp_get (pc := 82) dX11_letter_82 fl_X11_234_3 (hR.lt hj) rfl ?_
      exact wp_iret (pc := 85) dX11_letter_85 rfl ⟨by subst c14; simp only [f_letter, hix, e1, if_true, if_false, Bool.true_eq_false, Bool.false_eq_true, reduceIte, reduceCtorEq, Bool.not_true, Bool.not_false, true_and, and_true, and_false, false_and, or_true, true_or, or_false, false_or, not_true_eq_false, not_false_eq_true] <;> rfl, rfl⟩
    · skip
      refine wp_aload_n (pc := 86) dX11_letter_86 rfl rfl ?_
      refine wp_get (pc := 87) dX11_letter_87 fl_X11_209_3 (hR.lt hj) rfl ?_
      exact wp_iret (pc := 90) dX11_letter_90 rfl ⟨by subst c14; simp only [f_letter, hix, e1, if_true, if_false, Bool.true_eq_false, Bool.false_eq_true, reduceIte, reduceCtorEq, Bool.not_true, Bool.not_false, true_and, and_true, and_false, false_and, or_true, true_or, or_false, false_or, not_true_eq_false, not_false_eq_true] <;> rfl, rfl⟩
    · skip
      refine wp_bipush (pc := 91) (v := (-2)) dX11_letter_91 (by decide) ?_
      exact wp_iret (pc := 93) dX11_letter_93 rfl ⟨by simp only [f_letter, hix, e1, fin_out c14, if_true, if_false, Bool.true_eq_false, Bool.false_eq_true, reduceIte, reduceCtorEq, Bool.not_true, Bool.not_false, true_and, and_true, and_false, false_and, or_true, true_or, or_false, false_or, not_true_eq_false, not_false_eq_true], rfl⟩
  · skip
    refine wp_bipush (pc := 10) (v := (-2)) dX11_letter_10 (by decide) ?_
    exact wp_iret (pc := 12) dX11_letter_12 rfl ⟨by unfold f_letter; rw [if_pos (oAt_n c7)], rfl⟩
theorem k_wrote (v what : Int32) (hR : RH G hp A M h) (hb : bnd M) : SpP l G mX11_wrote [.ref (A.1 0 0), .int v, .int what] h (.long (f_wrote M v what)) := by
  refine Sp.intro (lv := [_, _, _, _]) (by decide) rfl (Nat.le_of_ble_eq_true rfl) ?_
  refine wp_widen (rc' := 0) (rs' := 0) (Nat.le_refl _) (Nat.le_refl _) ?_
  have hb9 := hb
  unfold bnd at hb9
  refine wp_aload_n (pc := 0) dX11_wrote_0 rfl rfl ?_
  refine wp_iload_n (pc := 1) dX11_wrote_1 rfl rfl ?_
  refine wc_VP (pc := 2) (μ2 := mX11_letterAt) (rc := 0) (rs := 0) [_] dX11_wrote_2 rfl hR.bd rfl cv_X11_205_12 rfl ⟨(Nat.le_of_ble_eq_true rfl), (Nat.le_of_ble_eq_true rfl)⟩ (Nat.le_of_ble_eq_true rfl) (c_letterAt l G _ hR hb) ?_
  refine wp_astore_nQ (pc := 5) (lv' := [_, _, _, _]) dX11_wrote_5 rfl (Nat.le_of_ble_eq_true rfl) rfl rfl ?_
  refine wp_aload_nQ (pc := 6) dX11_wrote_6 rfl rfl ?_
  refine wp_ifnonnull (pc := 7) (tgt := 14) dX11_wrote_7 (by decide) (fun a7 c7 => ?_) (fun c7 => ?_)
  · obtain ⟨j, hj, rfl, rfl⟩ := oAt_s c7 (by omega)
    rw [oAt_t hj (by omega)]
    have hix := isIx_nI hj (show nx (M.1 35) < 2 ^ 31 by omega)
    have e1 : nx (nI j) = j := nx_nI (by omega)
    refine wp_iload_n (pc := 14) dX11_wrote_14 rfl rfl ?_
    refine wp_tsw_0_2 (pc := 15) dX11_wrote_15 (t0 := 40) (t1 := 45) (t2 := 50) (td := 56) (by decide) (by decide) (by decide) (by decide) (fun c15 => ?_) (fun c15 => ?_) (fun c15 => ?_) (fun c15 => ?_)
    · skip
      refine wp_aload_n (pc := 40) dX11_wrote_40 rfl rfl ?_
      refine wp_get (pc := 41) dX11_wrote_41 fl_X11_235_3 (hR.lt hj) rfl ?_
      exact wp_lret (pc := 44) dX11_wrote_44 rfl ⟨by subst c15; simp only [f_wrote, hix, e1, if_true, if_false, Bool.true_eq_false, Bool.false_eq_true, reduceIte, reduceCtorEq, Bool.not_true, Bool.not_false, true_and, and_true, and_false, false_and, or_true, true_or, or_false, false_or, not_true_eq_false, not_false_eq_true] <;> rfl, rfl⟩
    · skip
      refine wp_aload_n (pc := 45) dX11_wrote_45 rfl rfl ?_
      refine wp_get (pc := 46) dX11_wrote_46 fl_X11_240_3 (hR.lt hj) rfl ?_
      exact wp_lret (pc := 49) dX11_wrote_49 rfl ⟨by subst c15; simp only [f_wrote, hix, e1, if_true, if_false, Bool.true_eq_false, Bool.false_eq_true, reduceIte, reduceCtorEq, Bool.not_true, Bool.not_false, true_and, and_true, and_false, false_and, or_true, true_or, or_false, false_or, not_true_eq_false, not_false_eq_true] <;> rfl, rfl⟩
    · skip
      refine wp_aload_n (pc := 50) dX11_wrote_50 rfl rfl ?_
      refine wp_get (pc := 51) dX11_wrote_51 fl_X11_243_3 (hR.lt hj) rfl ?_
      refine wp_i2l (pc := 54) dX11_wrote_54 ?_
      exact wp_lret (pc := 55) dX11_wrote_55 rfl ⟨by subst c15; simp only [f_wrote, hix, e1, if_true, if_false, Bool.true_eq_false, Bool.false_eq_true, reduceIte, reduceCtorEq, Bool.not_true, Bool.not_false, true_and, and_true, and_false, false_and, or_true, true_or, or_false, false_or, not_true_eq_false, not_false_eq_true] <;> rfl, rfl⟩
    · skip
      refine wp_ldc2_w (pc := 56) dX11_wrote_56 w2_212 ?_
      exact wp_lret (pc := 59) dX11_wrote_59 rfl ⟨by simp only [f_wrote, hix, e1, fin_out c15, if_true, if_false, Bool.true_eq_false, Bool.false_eq_true, reduceIte, reduceCtorEq, Bool.not_true, Bool.not_false, true_and, and_true, and_false, false_and, or_true, true_or, or_false, false_or, not_true_eq_false, not_false_eq_true], rfl⟩
  · skip
    refine wp_ldc2_w (pc := 10) dX11_wrote_10 w2_212 ?_
    exact wp_lret (pc := 13) dX11_wrote_13 rfl ⟨by unfold f_wrote; rw [if_pos (oAt_n c7)], rfl⟩
theorem gAt_s {A : AD} {M : MS} {t i : Int32} {a : Nat} (hb : bnd M) (hT : tidy M) (h : gAt A M t i = some a) : ∃ j q, j < nx (M.1 11) ∧ q < nx (M.2.1 21 j) ∧ t = nI j ∧ i = nI q ∧ a = A.1 8 (20 * j + q) ∧ nx (nI j) = j ∧ nx (nI q) = q ∧ isIx (nI j) (nx (M.1 11)) = true ∧ isIx (nI q) (nx (M.2.1 21 j)) = true := by
  have hb9 := hb
  unfold bnd at hb9
  unfold gAt at h
  split at h
  · rename_i hi
    obtain ⟨j, hj, rfl⟩ := isIx_t hi.1 (by omega)
    have e1 : nx (nI j) = j := nx_nI (by omega)
    have h20 := hT.1 j hj
    have h2 := hi.2
    rw [e1] at h2
    obtain ⟨q, hq, rfl⟩ := isIx_t h2 (by omega)
    have e2 : nx (nI q) = q := nx_nI (by omega)
    rw [e1, e2] at h
    cases h
    exact ⟨j, q, hj, hq, rfl, rfl, rfl, e1, e2, hi.1, h2⟩
  · cases h
theorem gAt_n {A : AD} {M : MS} {t i : Int32} (h : gAt A M t i = none) : isIx t (nx (M.1 11)) = true → isIx i (nx (M.2.1 21 (nx t))) = false := by
  intro ht
  unfold gAt at h
  split at h
  · cases h
  · rename_i hi
    cases hz : isIx i (nx (M.2.1 21 (nx t))) with
    | false => rfl
    | true => exact absurd ⟨ht, hz⟩ hi
theorem oAt_i {A : AD} {k n a : Nat} {v : Int32} (h : oAt A k v n = some a) : isIx v n = true := by
  unfold oAt at h
  split at h
  · assumption
  · cases h
theorem gAt_m {A : AD} {M : MS} {j q : Nat} (e1 : nx (nI j) = j) (e2 : nx (nI q) = q) (i1 : isIx (nI j) (nx (M.1 11)) = true) (i2 : isIx (nI q) (nx (M.2.1 21 j)) = true) : gAt A M (nI j) (nI q) = some (A.1 8 (20 * j + q)) := by
  unfold gAt
  rw [e1, e2, if_pos ⟨i1, i2⟩]
theorem n012 {v : Int32} (h : fin v 0 2 = true) (h0 : ¬ v = 0) (h1 : ¬ v = 1) : True := trivial
theorem k_grant (v i what : Int32) (hR : RH G hp A M h) (hb : bnd M) (hT : tidy M) : SpP l G mX11_grant [.ref (A.1 0 0), .int v, .int i, .int what] h (.int (f_grant M v i what)) := by
  refine Sp.intro (lv := [_, _, _, _, _]) (by decide) rfl (Nat.le_of_ble_eq_true rfl) ?_
  refine wp_widen (rc' := 0) (rs' := 0) (Nat.le_refl _) (Nat.le_refl _) ?_
  have hb9 := hb
  unfold bnd at hb9
  refine wp_aload_n (pc := 0) dX11_grant_0 rfl rfl ?_
  refine wp_iload_n (pc := 1) dX11_grant_1 rfl rfl ?_
  refine wc_VP (pc := 2) (μ2 := mX11_thingAt) (rc := 0) (rs := 0) [_] dX11_grant_2 rfl hR.bd rfl cv_X11_156_12 rfl ⟨(Nat.le_of_ble_eq_true rfl), (Nat.le_of_ble_eq_true rfl)⟩ (Nat.le_of_ble_eq_true rfl) (c_thingAt l G _ hR hb) ?_
  refine wp_ifnull (pc := 5) (tgt := 17) dX11_grant_5 (by decide) (fun c5 => ?_) (fun a5 c5 => ?_)
  · skip
    refine wp_bipush (pc := 17) (v := (-2)) dX11_grant_17 (by decide) ?_
    exact wp_iret (pc := 19) dX11_grant_19 rfl ⟨by unfold f_grant; rw [if_pos (oAt_n c5)], rfl⟩
  · skip
    refine wp_iload_n (pc := 8) dX11_grant_8 rfl rfl ?_
    refine wp_iconst (pc := 9) (v := 0) dX11_grant_9 (by decide) ?_
    refine wp_iconst (pc := 10) (v := 2) dX11_grant_10 (by decide) ?_
    refine wc_SP (pc := 11) (μ2 := mX11_isWithin) (rc := 0) (rs := 0) [_, _, _] dX11_grant_11 rfl cs_X11_103 rfl ⟨(Nat.le_of_ble_eq_true rfl), (Nat.le_of_ble_eq_true rfl)⟩ (Nat.le_of_ble_eq_true rfl) (c_isWithin l G _ _ _ _) ?_
    refine wp_ifB_ne (pc := 14) (tgt := 20) dX11_grant_14 (by decide) (fun c14 => ?_) (fun c14 => ?_)
    · skip
      refine wp_aload_n (pc := 20) dX11_grant_20 rfl rfl ?_
      refine wp_iload_n (pc := 21) dX11_grant_21 rfl rfl ?_
      refine wp_iload_n (pc := 22) dX11_grant_22 rfl rfl ?_
      refine wc_VP (pc := 23) (μ2 := mX11_grantAt) (rc := 0) (rs := 0) [_, _] dX11_grant_23 rfl hR.bd rfl cv_X11_257_12 rfl ⟨(Nat.le_of_ble_eq_true rfl), (Nat.le_of_ble_eq_true rfl)⟩ (Nat.le_of_ble_eq_true rfl) (c_grantAt l G _ _ hR hb hT) ?_
      refine wp_astoreQ (pc := 26) (lv' := [_, _, _, _, _]) dX11_grant_26 (Nat.le_of_ble_eq_true rfl) rfl rfl ?_
      refine wp_aloadQ (pc := 28) dX11_grant_28 rfl ?_
      refine wp_ifnonnull (pc := 30) (tgt := 35) dX11_grant_30 (by decide) (fun a30 c30 => ?_) (fun c30 => ?_)
      · obtain ⟨j, q, hj, hq, rfl, rfl, rfl, e1, e2, i1, i2⟩ := gAt_s hb hT c30
        rw [gAt_m e1 e2 i1 i2]
        refine wp_iload_n (pc := 35) dX11_grant_35 rfl rfl ?_
        refine wp_lsw01 (pc := 36) (t0 := 64) (t1 := 70) (td := 76) dX11_grant_36 (by decide) (by decide) (by decide) (fun c36 => ?_) (fun c36 => ?_) (fun c36a c36b => ?_)
        · skip
          refine wp_aload (pc := 64) dX11_grant_64 rfl ?_
          refine wp_get (pc := 66) dX11_grant_66 fl_X11_261_2 (hR.gi hT hj hq) rfl ?_
          exact wp_iret (pc := 69) dX11_grant_69 rfl ⟨by subst c36; simp only [f_grant, e1, e2, i1, i2, if_true, if_false, Bool.true_eq_false, Bool.false_eq_true, reduceIte, reduceCtorEq, Bool.not_true, Bool.not_false, true_and, and_true, and_false, false_and, or_true, true_or, or_false, false_or, not_true_eq_false, not_false_eq_true] <;> rfl, rfl⟩
        · skip
          refine wp_aload (pc := 70) dX11_grant_70 rfl ?_
          refine wp_get (pc := 72) dX11_grant_72 fl_X11_264_2 (hR.gi hT hj hq) rfl ?_
          exact wp_iret (pc := 75) dX11_grant_75 rfl ⟨by subst c36; simp only [f_grant, e1, e2, i1, i2, if_true, if_false, Bool.true_eq_false, Bool.false_eq_true, reduceIte, reduceCtorEq, Bool.not_true, Bool.not_false, true_and, and_true, and_false, false_and, or_true, true_or, or_false, false_or, not_true_eq_false, not_false_eq_true] <;> rfl, rfl⟩
        · skip
          refine wp_aload (pc := 76) dX11_grant_76 rfl ?_
          refine wp_get (pc := 78) dX11_grant_78 fl_X11_265_2 (hR.gi hT hj hq) rfl ?_
          exact wp_iret (pc := 81) dX11_grant_81 rfl ⟨by simp only [f_grant, e1, e2, i1, i2, c14, eq_false c36a, eq_false c36b, if_true, if_false, Bool.true_eq_false, Bool.false_eq_true, reduceIte, reduceCtorEq, Bool.not_true, Bool.not_false, true_and, and_true, and_false, false_and, or_true, true_or, or_false, false_or, not_true_eq_false, not_false_eq_true], rfl⟩
      · skip
        refine wp_iconst (pc := 33) (v := (-1)) dX11_grant_33 (by decide) ?_
        exact wp_iret (pc := 34) dX11_grant_34 rfl ⟨by simp only [f_grant, oAt_i c5, c14, gAt_n c30 (oAt_i c5), if_true, if_false, Bool.true_eq_false, Bool.false_eq_true, reduceIte, reduceCtorEq, Bool.not_true, Bool.not_false, true_and, and_true, and_false, false_and, or_true, true_or, or_false, false_or, not_true_eq_false, not_false_eq_true], rfl⟩
    · skip
      refine wp_bipush (pc := 17) (v := (-2)) dX11_grant_17 (by decide) ?_
      exact wp_iret (pc := 19) dX11_grant_19 rfl ⟨by simp only [f_grant, oAt_i c5, c14, if_true, if_false, Bool.true_eq_false, Bool.false_eq_true, reduceIte, reduceCtorEq, Bool.not_true, Bool.not_false, true_and, and_true, and_false, false_and, or_true, true_or, or_false, false_or, not_true_eq_false, not_false_eq_true], rfl⟩
theorem ends_n {M : MS} {A : AD} {v i what : Int32} (h : gAt A M v i = none) : f_ends M v i what = -4611686018427387904 := by
  unfold f_ends
  cases h1 : isIx v (nx (M.1 11)) with
  | false => rw [if_pos rfl]
  | true =>
    rw [if_neg (by decide)]
    cases h2 : fin what 0 1 with
    | false => rw [if_pos rfl]
    | true => rw [if_neg (by decide), if_pos (gAt_n h h1)]
theorem k_ends (v i what : Int32) (hR : RH G hp A M h) (hb : bnd M) (hT : tidy M) : SpP l G mX11_ends [.ref (A.1 0 0), .int v, .int i, .int what] h (.long (f_ends M v i what)) := by
  refine Sp.intro (lv := [_, _, _, _, _]) (by decide) rfl (Nat.le_of_ble_eq_true rfl) ?_
  refine wp_widen (rc' := 0) (rs' := 0) (Nat.le_refl _) (Nat.le_refl _) ?_
  have hb9 := hb
  unfold bnd at hb9
  refine wp_aload_n (pc := 0) dX11_ends_0 rfl rfl ?_
  refine wp_iload_n (pc := 1) dX11_ends_1 rfl rfl ?_
  refine wp_iload_n (pc := 2) dX11_ends_2 rfl rfl ?_
  refine wc_VP (pc := 3) (μ2 := mX11_grantAt) (rc := 0) (rs := 0) [_, _] dX11_ends_3 rfl hR.bd rfl cv_X11_257_12 rfl ⟨(Nat.le_of_ble_eq_true rfl), (Nat.le_of_ble_eq_true rfl)⟩ (Nat.le_of_ble_eq_true rfl) (c_grantAt l G _ _ hR hb hT) ?_
  refine wp_astoreQ (pc := 6) (lv' := [_, _, _, _, _]) dX11_ends_6 (Nat.le_of_ble_eq_true rfl) rfl rfl ?_
  refine wp_aloadQ (pc := 8) dX11_ends_8 rfl ?_
  refine wp_ifnull (pc := 10) (tgt := 22) dX11_ends_10 (by decide) (fun c10 => ?_) (fun a10 c10 => ?_)
  · skip
    refine wp_ldc2_w (pc := 22) dX11_ends_22 w2_212 ?_
    exact wp_lret (pc := 25) dX11_ends_25 rfl ⟨by rw [ends_n c10], rfl⟩
  · obtain ⟨j, q, hj, hq, rfl, rfl, rfl, e1, e2, i1, i2⟩ := gAt_s hb hT c10
    rw [gAt_m e1 e2 i1 i2]
    refine wp_iload_n (pc := 13) dX11_ends_13 rfl rfl ?_
    refine wp_iconst (pc := 14) (v := 0) dX11_ends_14 (by decide) ?_
    refine wp_iconst (pc := 15) (v := 1) dX11_ends_15 (by decide) ?_
    refine wc_SP (pc := 16) (μ2 := mX11_isWithin) (rc := 0) (rs := 0) [_, _, _] dX11_ends_16 rfl cs_X11_103 rfl ⟨(Nat.le_of_ble_eq_true rfl), (Nat.le_of_ble_eq_true rfl)⟩ (Nat.le_of_ble_eq_true rfl) (c_isWithin l G _ _ _ _) ?_
    refine wp_ifB_ne (pc := 19) (tgt := 26) dX11_ends_19 (by decide) (fun c19 => ?_) (fun c19 => ?_)
    · skip
      refine wp_iload_n (pc := 26) dX11_ends_26 rfl rfl ?_
      refine wp_if_ne (pc := 27) (tgt := 38) dX11_ends_27 (by decide) (fun c27 => ?_) (fun c27 => ?_)
      · skip
        refine wp_aload (pc := 38) dX11_ends_38 rfl ?_
        refine wp_get (pc := 40) dX11_ends_40 fl_X11_267_2 (hR.gi hT hj hq) rfl ?_
        exact wp_lret (pc := 43) dX11_ends_43 rfl ⟨by simp only [f_ends, e1, e2, i1, i2, c19, eq_false c27, if_true, if_false, Bool.true_eq_false, Bool.false_eq_true, reduceIte, reduceCtorEq, Bool.not_true, Bool.not_false, true_and, and_true, and_false, false_and, or_true, true_or, or_false, false_or, not_true_eq_false, not_false_eq_true], rfl⟩
      · skip
        refine wp_aload (pc := 30) dX11_ends_30 rfl ?_
        refine wp_get (pc := 32) dX11_ends_32 fl_X11_266_2 (hR.gi hT hj hq) rfl ?_
        refine wp_goto (pc := 35) (tgt := 43) dX11_ends_35 (by decide) ?_
        exact wp_lret (pc := 43) dX11_ends_43 rfl ⟨by simp only [f_ends, e1, e2, i1, i2, c19, eq_true c27, if_true, if_false, Bool.true_eq_false, Bool.false_eq_true, reduceIte, reduceCtorEq, Bool.not_true, Bool.not_false, true_and, and_true, and_false, false_and, or_true, true_or, or_false, false_or, not_true_eq_false, not_false_eq_true], rfl⟩
    · skip
      refine wp_ldc2_w (pc := 22) dX11_ends_22 w2_212 ?_
      exact wp_lret (pc := 25) dX11_ends_25 rfl ⟨by simp only [f_ends, e1, e2, i1, i2, c19, if_true, if_false, Bool.true_eq_false, Bool.false_eq_true, reduceIte, reduceCtorEq, Bool.not_true, Bool.not_false, true_and, and_true, and_false, false_and, or_true, true_or, or_false, false_or, not_true_eq_false, not_false_eq_true], rfl⟩
theorem held_n {M : MS} {A : AD} {w v what : Int32} (h : mAt A M w v = none) : f_held M w v what = -4611686018427387904 := by
  unfold f_held
  cases h1 : isIx w (nx (M.1 6)) with
  | false => rw [if_pos rfl]
  | true => rw [if_neg (by decide), if_pos (mAt_n h h1)]
theorem holds_n {M : MS} {A : AD} {w v what : Int32} (h : mAt A M w v = none) : f_holds M w v what = -2 := by
  unfold f_holds
  cases h1 : isIx w (nx (M.1 6)) with
  | false => rw [if_pos rfl]
  | true => rw [if_neg (by decide), if_pos (mAt_n h h1)]
theorem k_held (w v what : Int32) (hR : RH G hp A M h) (hb : bnd M) : SpP l G mX11_held [.ref (A.1 0 0), .int w, .int v, .int what] h (.long (f_held M w v what)) := by
  refine Sp.intro (lv := [_, _, _, _, _]) (by decide) rfl (Nat.le_of_ble_eq_true rfl) ?_
  refine wp_widen (rc' := 0) (rs' := 0) (Nat.le_refl _) (Nat.le_refl _) ?_
  have hb9 := hb
  unfold bnd at hb9
  refine wp_aload_n (pc := 0) dX11_held_0 rfl rfl ?_
  refine wp_iload_n (pc := 1) dX11_held_1 rfl rfl ?_
  refine wp_iload_n (pc := 2) dX11_held_2 rfl rfl ?_
  refine wc_VP (pc := 3) (μ2 := mX11_memoryAt) (rc := 0) (rs := 0) [_, _] dX11_held_3 rfl hR.bd rfl cv_X11_186_12 rfl ⟨(Nat.le_of_ble_eq_true rfl), (Nat.le_of_ble_eq_true rfl)⟩ (Nat.le_of_ble_eq_true rfl) (c_memoryAt l G _ _ hR hb) ?_
  refine wp_astoreQ (pc := 6) (lv' := [_, _, _, _, _]) dX11_held_6 (Nat.le_of_ble_eq_true rfl) rfl rfl ?_
  refine wp_aloadQ (pc := 8) dX11_held_8 rfl ?_
  refine wp_ifnull (pc := 10) (tgt := 30) dX11_held_10 (by decide) (fun c10 => ?_) (fun a10 c10 => ?_)
  · skip
    refine wp_ldc2_w (pc := 30) dX11_held_30 w2_212 ?_
    exact wp_lret (pc := 33) dX11_held_33 rfl ⟨by rw [held_n c10], rfl⟩
  · obtain ⟨i, j, hi, hj, rfl, rfl, rfl⟩ := mAt_s hb c10
    rw [mAt_t hb hi hj]
    have i1 := isIx_nI hi (show nx (M.1 6) < 2 ^ 31 by omega)
    have i2 := isIx_nI hj (show nx (M.1 11) < 2 ^ 31 by omega)
    have e1 : nx (nI i) = i := nx_nI (by omega)
    have e2 : nx (nI j) = j := nx_nI (by omega)
    refine wp_aload (pc := 13) dX11_held_13 rfl ?_
    refine wp_get (pc := 15) dX11_held_15 fl_X11_135_4 (hR.mm (i := 20 * i + j) (by omega)) rfl ?_
    refine wp_if_eq (pc := 18) (tgt := 30) dX11_held_18 (by decide) (fun c18 => ?_) (fun c18 => ?_)
    · skip
      refine wp_ldc2_w (pc := 30) dX11_held_30 w2_212 ?_
      exact wp_lret (pc := 33) dX11_held_33 rfl ⟨by simp only [f_held, e1, e2, i1, i2, eq_true c18, if_true, if_false, Bool.true_eq_false, Bool.false_eq_true, reduceIte, reduceCtorEq, Bool.not_true, Bool.not_false, true_and, and_true, and_false, false_and, or_true, true_or, or_false, false_or, not_true_eq_false, not_false_eq_true] <;> (try split) <;> rfl, rfl⟩
    · skip
      refine wp_iload_n (pc := 21) dX11_held_21 rfl rfl ?_
      refine wp_iconst (pc := 22) (v := 0) dX11_held_22 (by decide) ?_
      refine wp_iconst (pc := 23) (v := 1) dX11_held_23 (by decide) ?_
      refine wc_SP (pc := 24) (μ2 := mX11_isWithin) (rc := 0) (rs := 0) [_, _, _] dX11_held_24 rfl cs_X11_103 rfl ⟨(Nat.le_of_ble_eq_true rfl), (Nat.le_of_ble_eq_true rfl)⟩ (Nat.le_of_ble_eq_true rfl) (c_isWithin l G _ _ _ _) ?_
      refine wp_ifB_ne (pc := 27) (tgt := 34) dX11_held_27 (by decide) (fun c27 => ?_) (fun c27 => ?_)
      · skip
        refine wp_iload_n (pc := 34) dX11_held_34 rfl rfl ?_
        refine wp_if_ne (pc := 35) (tgt := 46) dX11_held_35 (by decide) (fun c35 => ?_) (fun c35 => ?_)
        · skip
          refine wp_aload (pc := 46) dX11_held_46 rfl ?_
          refine wp_get (pc := 48) dX11_held_48 fl_X11_306_4 (hR.mm (i := 20 * i + j) (by omega)) rfl ?_
          exact wp_lret (pc := 51) dX11_held_51 rfl ⟨by simp only [f_held, e1, e2, i1, i2, eq_false c18, c27, eq_false c35, if_true, if_false, Bool.true_eq_false, Bool.false_eq_true, reduceIte, reduceCtorEq, Bool.not_true, Bool.not_false, true_and, and_true, and_false, false_and, or_true, true_or, or_false, false_or, not_true_eq_false, not_false_eq_true] <;> (try split) <;> rfl, rfl⟩
        · skip
          refine wp_aload (pc := 38) dX11_held_38 rfl ?_
          refine wp_get (pc := 40) dX11_held_40 fl_X11_196_4 (hR.mm (i := 20 * i + j) (by omega)) rfl ?_
          refine wp_goto (pc := 43) (tgt := 51) dX11_held_43 (by decide) ?_
          exact wp_lret (pc := 51) dX11_held_51 rfl ⟨by simp only [f_held, e1, e2, i1, i2, eq_false c18, c27, eq_true c35, if_true, if_false, Bool.true_eq_false, Bool.false_eq_true, reduceIte, reduceCtorEq, Bool.not_true, Bool.not_false, true_and, and_true, and_false, false_and, or_true, true_or, or_false, false_or, not_true_eq_false, not_false_eq_true] <;> (try split) <;> rfl, rfl⟩
      · skip
        refine wp_ldc2_w (pc := 30) dX11_held_30 w2_212 ?_
        exact wp_lret (pc := 33) dX11_held_33 rfl ⟨by simp only [f_held, e1, e2, i1, i2, eq_false c18, c27, if_true, if_false, Bool.true_eq_false, Bool.false_eq_true, reduceIte, reduceCtorEq, Bool.not_true, Bool.not_false, true_and, and_true, and_false, false_and, or_true, true_or, or_false, false_or, not_true_eq_false, not_false_eq_true] <;> (try split) <;> rfl, rfl⟩
theorem k_holds (w v what : Int32) (hR : RH G hp A M h) (hb : bnd M) : SpP l G mX11_holds [.ref (A.1 0 0), .int w, .int v, .int what] h (.int (f_holds M w v what)) := by
  refine Sp.intro (lv := [_, _, _, _, _]) (by decide) rfl (Nat.le_of_ble_eq_true rfl) ?_
  refine wp_widen (rc' := 0) (rs' := 0) (Nat.le_refl _) (Nat.le_refl _) ?_
  have hb9 := hb
  unfold bnd at hb9
  refine wp_aload_n (pc := 0) dX11_holds_0 rfl rfl ?_
  refine wp_iload_n (pc := 1) dX11_holds_1 rfl rfl ?_
  refine wp_iload_n (pc := 2) dX11_holds_2 rfl rfl ?_
  refine wc_VP (pc := 3) (μ2 := mX11_memoryAt) (rc := 0) (rs := 0) [_, _] dX11_holds_3 rfl hR.bd rfl cv_X11_186_12 rfl ⟨(Nat.le_of_ble_eq_true rfl), (Nat.le_of_ble_eq_true rfl)⟩ (Nat.le_of_ble_eq_true rfl) (c_memoryAt l G _ _ hR hb) ?_
  refine wp_astoreQ (pc := 6) (lv' := [_, _, _, _, _]) dX11_holds_6 (Nat.le_of_ble_eq_true rfl) rfl rfl ?_
  refine wp_aloadQ (pc := 8) dX11_holds_8 rfl ?_
  refine wp_ifnonnull (pc := 10) (tgt := 16) dX11_holds_10 (by decide) (fun a10 c10 => ?_) (fun c10 => ?_)
  · obtain ⟨i, j, hi, hj, rfl, rfl, rfl⟩ := mAt_s hb c10
    rw [mAt_t hb hi hj]
    have i1 := isIx_nI hi (show nx (M.1 6) < 2 ^ 31 by omega)
    have i2 := isIx_nI hj (show nx (M.1 11) < 2 ^ 31 by omega)
    have e1 : nx (nI i) = i := nx_nI (by omega)
    have e2 : nx (nI j) = j := nx_nI (by omega)
    refine wp_iload_n (pc := 16) dX11_holds_16 rfl rfl ?_
    refine wp_tsw_0_4 (pc := 17) dX11_holds_17 (t0 := 52) (t1 := 67) (t2 := 81) (t3 := 99) (t4 := 117) (td := 131) (by decide) (by decide) (by decide) (by decide) (by decide) (by decide) (fun c17 => ?_) (fun c17 => ?_) (fun c17 => ?_) (fun c17 => ?_) (fun c17 => ?_) (fun c17 => ?_)
    · skip
      refine wp_aload_n (pc := 52) dX11_holds_52 rfl rfl ?_
      refine wp_iload_n (pc := 53) dX11_holds_53 rfl rfl ?_
      refine wp_iload_n (pc := 54) dX11_holds_54 rfl rfl ?_
      refine wc_VP (pc := 55) (μ2 := mX11_mayUse) (rc := 0) (rs := 0) [_, _] dX11_holds_55 rfl hR.bd rfl cv_X11_300_12 rfl ⟨(Nat.le_of_ble_eq_true rfl), (Nat.le_of_ble_eq_true rfl)⟩ (Nat.le_of_ble_eq_true rfl) (c_mayUse l G hR hb hi hj) ?_
      refine wp_ifB_eq (pc := 58) (tgt := 65) dX11_holds_58 (by decide) (fun c58 => ?_) (fun c58 => ?_)
      · skip
        refine wp_iconst (pc := 65) (v := 0) dX11_holds_65 (by decide) ?_
        exact wp_iret (pc := 66) dX11_holds_66 rfl ⟨by subst c17; simp only [f_holds, e1, e2, i1, i2, bi, c58, if_true, if_false, Bool.true_eq_false, Bool.false_eq_true, reduceIte, reduceCtorEq, Bool.not_true, Bool.not_false, true_and, and_true, and_false, false_and, or_true, true_or, or_false, false_or, not_true_eq_false, not_false_eq_true] <;> rfl, rfl⟩
      · skip
        refine wp_iconst (pc := 61) (v := 1) dX11_holds_61 (by decide) ?_
        refine wp_goto (pc := 62) (tgt := 66) dX11_holds_62 (by decide) ?_
        exact wp_iret (pc := 66) dX11_holds_66 rfl ⟨by subst c17; simp only [f_holds, e1, e2, i1, i2, bi, c58, if_true, if_false, Bool.true_eq_false, Bool.false_eq_true, reduceIte, reduceCtorEq, Bool.not_true, Bool.not_false, true_and, and_true, and_false, false_and, or_true, true_or, or_false, false_or, not_true_eq_false, not_false_eq_true] <;> rfl, rfl⟩
    · skip
      refine wp_aload (pc := 67) dX11_holds_67 rfl ?_
      refine wp_get (pc := 69) dX11_holds_69 fl_X11_135_4 (hR.mm (i := 20 * i + j) (by omega)) rfl ?_
      refine wp_if_eq (pc := 72) (tgt := 79) dX11_holds_72 (by decide) (fun c72 => ?_) (fun c72 => ?_)
      · skip
        refine wp_iconst (pc := 79) (v := 0) dX11_holds_79 (by decide) ?_
        exact wp_iret (pc := 80) dX11_holds_80 rfl ⟨by subst c17; simp only [f_holds, e1, e2, i1, i2, bi, eq_true c72, if_true, if_false, Bool.true_eq_false, Bool.false_eq_true, reduceIte, reduceCtorEq, Bool.not_true, Bool.not_false, true_and, and_true, and_false, false_and, or_true, true_or, or_false, false_or, not_true_eq_false, not_false_eq_true] <;> rfl, rfl⟩
      · skip
        refine wp_iconst (pc := 75) (v := 1) dX11_holds_75 (by decide) ?_
        refine wp_goto (pc := 76) (tgt := 80) dX11_holds_76 (by decide) ?_
        exact wp_iret (pc := 80) dX11_holds_80 rfl ⟨by subst c17; simp only [f_holds, e1, e2, i1, i2, bi, eq_false c72, if_true, if_false, Bool.true_eq_false, Bool.false_eq_true, reduceIte, reduceCtorEq, Bool.not_true, Bool.not_false, true_and, and_true, and_false, false_and, or_true, true_or, or_false, false_or, not_true_eq_false, not_false_eq_true] <;> rfl, rfl⟩
    · skip
      refine wp_aload (pc := 81) dX11_holds_81 rfl ?_
      refine wp_get (pc := 83) dX11_holds_83 fl_X11_135_4 (hR.mm (i := 20 * i + j) (by omega)) rfl ?_
      refine wp_if_eq (pc := 86) (tgt := 97) dX11_holds_86 (by decide) (fun c86 => ?_) (fun c86 => ?_)
      · skip
        refine wp_iconst (pc := 97) (v := (-1)) dX11_holds_97 (by decide) ?_
        exact wp_iret (pc := 98) dX11_holds_98 rfl ⟨by subst c17; simp only [f_holds, e1, e2, i1, i2, bi, eq_true c86, if_true, if_false, Bool.true_eq_false, Bool.false_eq_true, reduceIte, reduceCtorEq, Bool.not_true, Bool.not_false, true_and, and_true, and_false, false_and, or_true, true_or, or_false, false_or, not_true_eq_false, not_false_eq_true] <;> rfl, rfl⟩
      · skip
        refine wp_aload (pc := 89) dX11_holds_89 rfl ?_
        refine wp_get (pc := 91) dX11_holds_91 fl_X11_190_4 (hR.mm (i := 20 * i + j) (by omega)) rfl ?_
        refine wp_goto (pc := 94) (tgt := 98) dX11_holds_94 (by decide) ?_
        exact wp_iret (pc := 98) dX11_holds_98 rfl ⟨by subst c17; simp only [f_holds, e1, e2, i1, i2, bi, eq_false c86, if_true, if_false, Bool.true_eq_false, Bool.false_eq_true, reduceIte, reduceCtorEq, Bool.not_true, Bool.not_false, true_and, and_true, and_false, false_and, or_true, true_or, or_false, false_or, not_true_eq_false, not_false_eq_true] <;> rfl, rfl⟩
    · skip
      refine wp_aload (pc := 99) dX11_holds_99 rfl ?_
      refine wp_get (pc := 101) dX11_holds_101 fl_X11_135_4 (hR.mm (i := 20 * i + j) (by omega)) rfl ?_
      refine wp_if_eq (pc := 104) (tgt := 115) dX11_holds_104 (by decide) (fun c104 => ?_) (fun c104 => ?_)
      · skip
        refine wp_iconst (pc := 115) (v := (-1)) dX11_holds_115 (by decide) ?_
        exact wp_iret (pc := 116) dX11_holds_116 rfl ⟨by subst c17; simp only [f_holds, e1, e2, i1, i2, bi, eq_true c104, if_true, if_false, Bool.true_eq_false, Bool.false_eq_true, reduceIte, reduceCtorEq, Bool.not_true, Bool.not_false, true_and, and_true, and_false, false_and, or_true, true_or, or_false, false_or, not_true_eq_false, not_false_eq_true] <;> rfl, rfl⟩
      · skip
        refine wp_aload (pc := 107) dX11_holds_107 rfl ?_
        refine wp_get (pc := 109) dX11_holds_109 fl_X11_193_4 (hR.mm (i := 20 * i + j) (by omega)) rfl ?_
        refine wp_goto (pc := 112) (tgt := 116) dX11_holds_112 (by decide) ?_
        exact wp_iret (pc := 116) dX11_holds_116 rfl ⟨by subst c17; simp only [f_holds, e1, e2, i1, i2, bi, eq_false c104, if_true, if_false, Bool.true_eq_false, Bool.false_eq_true, reduceIte, reduceCtorEq, Bool.not_true, Bool.not_false, true_and, and_true, and_false, false_and, or_true, true_or, or_false, false_or, not_true_eq_false, not_false_eq_true] <;> rfl, rfl⟩
    · skip
      refine wp_aload (pc := 117) dX11_holds_117 rfl ?_
      refine wp_get (pc := 119) dX11_holds_119 fl_X11_303_4 (hR.mm (i := 20 * i + j) (by omega)) rfl ?_
      refine wp_if_eq (pc := 122) (tgt := 129) dX11_holds_122 (by decide) (fun c122 => ?_) (fun c122 => ?_)
      · skip
        refine wp_iconst (pc := 129) (v := 0) dX11_holds_129 (by decide) ?_
        exact wp_iret (pc := 130) dX11_holds_130 rfl ⟨by subst c17; simp only [f_holds, e1, e2, i1, i2, bi, eq_true c122, if_true, if_false, Bool.true_eq_false, Bool.false_eq_true, reduceIte, reduceCtorEq, Bool.not_true, Bool.not_false, true_and, and_true, and_false, false_and, or_true, true_or, or_false, false_or, not_true_eq_false, not_false_eq_true] <;> rfl, rfl⟩
      · skip
        refine wp_iconst (pc := 125) (v := 1) dX11_holds_125 (by decide) ?_
        refine wp_goto (pc := 126) (tgt := 130) dX11_holds_126 (by decide) ?_
        exact wp_iret (pc := 130) dX11_holds_130 rfl ⟨by subst c17; simp only [f_holds, e1, e2, i1, i2, bi, eq_false c122, if_true, if_false, Bool.true_eq_false, Bool.false_eq_true, reduceIte, reduceCtorEq, Bool.not_true, Bool.not_false, true_and, and_true, and_false, false_and, or_true, true_or, or_false, false_or, not_true_eq_false, not_false_eq_true] <;> rfl, rfl⟩
    · skip
      refine wp_bipush (pc := 131) (v := (-2)) dX11_holds_131 (by decide) ?_
      exact wp_iret (pc := 133) dX11_holds_133 rfl ⟨by simp only [f_holds, e1, e2, i1, i2, fin_out c17, if_true, if_false, Bool.true_eq_false, Bool.false_eq_true, reduceIte, reduceCtorEq, Bool.not_true, Bool.not_false, true_and, and_true, and_false, false_and, or_true, true_or, or_false, false_or, not_true_eq_false, not_false_eq_true], rfl⟩
  · skip
    refine wp_bipush (pc := 13) (v := (-2)) dX11_holds_13 (by decide) ?_
    exact wp_iret (pc := 15) dX11_holds_15 rfl ⟨by rw [holds_n c10], rfl⟩
theorem stored_n {M : MS} {s v what : Int32} (h : (isIx s (nx (M.1 46)) && isIx v (nx (M.1 11))) = false) : f_stored M s v what = -4611686018427387904 := by
  unfold f_stored
  cases h1 : isIx s (nx (M.1 46)) with
  | false => rw [if_pos rfl]
  | true =>
    rw [h1] at h
    rw [if_neg (by decide), if_pos (by simpa using h)]
theorem k_stored (s v what : Int32) (hR : RH G hp A M h) (hb : bnd M) (hS : M.1 46 = nI (nx (M.1 46))) : SpP l G mX11_stored [.ref (A.1 0 0), .int s, .int v, .int what] h (.long (f_stored M s v what)) := by
  refine Sp.intro (lv := [_, _, _, _]) (by decide) rfl (Nat.le_of_ble_eq_true rfl) ?_
  refine wp_widen (rc' := 0) (rs' := 0) (Nat.le_refl _) (Nat.le_refl _) ?_
  have hb9 := hb
  unfold bnd at hb9
  refine wp_aload_n (pc := 0) dX11_stored_0 rfl rfl ?_
  refine wp_iload_n (pc := 1) dX11_stored_1 rfl rfl ?_
  refine wp_iload_n (pc := 2) dX11_stored_2 rfl rfl ?_
  refine wc_VP (pc := 3) (μ2 := mX11_isStored) (rc := 0) (rs := 0) [_, _] dX11_stored_3 rfl hR.bd rfl cv_X11_309_12 rfl ⟨(Nat.le_of_ble_eq_true rfl), (Nat.le_of_ble_eq_true rfl)⟩ (Nat.le_of_ble_eq_true rfl) (c_isStored l G _ _ hR hb hS) ?_
  refine wp_ifB_eq (pc := 6) (tgt := 18) dX11_stored_6 (by decide) (fun c6 => ?_) (fun c6 => ?_)
  · skip
    refine wp_ldc2_w (pc := 18) dX11_stored_18 w2_212 ?_
    exact wp_lret (pc := 21) dX11_stored_21 rfl ⟨by rw [stored_n c6], rfl⟩
  · rw [Bool.and_eq_true] at c6
    obtain ⟨i1, i2⟩ := c6
    obtain ⟨i, hi, rfl⟩ := isIx_t i1 (by omega)
    obtain ⟨j, hj, rfl⟩ := isIx_t i2 (by omega)
    have e1 : nx (nI i) = i := nx_nI (by omega)
    have e2 : nx (nI j) = j := nx_nI (by omega)
    refine wp_iload_n (pc := 9) dX11_stored_9 rfl rfl ?_
    refine wp_iconst (pc := 10) (v := 0) dX11_stored_10 (by decide) ?_
    refine wp_iconst (pc := 11) (v := 1) dX11_stored_11 (by decide) ?_
    refine wc_SP (pc := 12) (μ2 := mX11_isWithin) (rc := 0) (rs := 0) [_, _, _] dX11_stored_12 rfl cs_X11_103 rfl ⟨(Nat.le_of_ble_eq_true rfl), (Nat.le_of_ble_eq_true rfl)⟩ (Nat.le_of_ble_eq_true rfl) (c_isWithin l G _ _ _ _) ?_
    refine wp_ifB_ne (pc := 15) (tgt := 22) dX11_stored_15 (by decide) (fun c15 => ?_) (fun c15 => ?_)
    · skip
      refine wp_iload_n (pc := 22) dX11_stored_22 rfl rfl ?_
      refine wp_if_ne (pc := 23) (tgt := 37) dX11_stored_23 (by decide) (fun c23 => ?_) (fun c23 => ?_)
      · skip
        refine wp_aload_n (pc := 37) dX11_stored_37 rfl rfl ?_
        refine wp_get (pc := 38) dX11_stored_38 fl_X11_30_12 hR.bd rfl ?_
        refine wp_iload_n (pc := 41) dX11_stored_41 rfl rfl ?_
        refine wp_aald (pc := 42) (i := i) (Or.inr (Or.inr (Or.inr rfl))) dX11_stored_42 hR.wo ⟨rfl, by omega, by decide⟩ ?_
        rw [lstF_i _ (by omega)]
        refine wp_iload_n (pc := 43) dX11_stored_43 rfl rfl ?_
        refine wp_lald (pc := 44) (i := j) dX11_stored_44 (hR.ws (i := i) (by omega)) ⟨rfl, by omega, by decide⟩ ?_
        exact wp_lret (pc := 45) dX11_stored_45 rfl ⟨by simp only [f_stored, e1, e2, i1, i2, c15, eq_false c23, if_true, if_false, Bool.true_eq_false, Bool.false_eq_true, reduceIte, reduceCtorEq, Bool.not_true, Bool.not_false, true_and, and_true, and_false, false_and, or_true, true_or, or_false, false_or, not_true_eq_false, not_false_eq_true] <;> rw [if_pos (by omega)], rfl⟩
      · skip
        refine wp_aload_n (pc := 26) dX11_stored_26 rfl rfl ?_
        refine wp_get (pc := 27) dX11_stored_27 fl_X11_27_12 hR.bd rfl ?_
        refine wp_iload_n (pc := 30) dX11_stored_30 rfl rfl ?_
        refine wp_aald (pc := 31) (i := i) (Or.inr (Or.inr (Or.inr rfl))) dX11_stored_31 hR.go ⟨rfl, by omega, by decide⟩ ?_
        rw [lstF_i _ (by omega)]
        refine wp_iload_n (pc := 32) dX11_stored_32 rfl rfl ?_
        refine wp_lald (pc := 33) (i := j) dX11_stored_33 (hR.gs (i := i) (by omega)) ⟨rfl, by omega, by decide⟩ ?_
        refine wp_goto (pc := 34) (tgt := 45) dX11_stored_34 (by decide) ?_
        exact wp_lret (pc := 45) dX11_stored_45 rfl ⟨by simp only [f_stored, e1, e2, i1, i2, c15, eq_true c23, if_true, if_false, Bool.true_eq_false, Bool.false_eq_true, reduceIte, reduceCtorEq, Bool.not_true, Bool.not_false, true_and, and_true, and_false, false_and, or_true, true_or, or_false, false_or, not_true_eq_false, not_false_eq_true] <;> rw [if_pos (by omega)], rfl⟩
    · skip
      refine wp_ldc2_w (pc := 18) dX11_stored_18 w2_212 ?_
      exact wp_lret (pc := 21) dX11_stored_21 rfl ⟨by simp only [f_stored, e1, e2, i1, i2, c15, if_true, if_false, Bool.true_eq_false, Bool.false_eq_true, reduceIte, reduceCtorEq, Bool.not_true, Bool.not_false, true_and, and_true, and_false, false_and, or_true, true_or, or_false, false_or, not_true_eq_false, not_false_eq_true], rfl⟩
end K6
