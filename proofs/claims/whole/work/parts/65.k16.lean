/-! ===== the class: workers' acts, twice ===== -/
section K16a
variable (l : Launch) (G : WG) {hp h : Hp} {A : AD} {M : MS}
theorem th_ci (hR : RH G hp A M h) {t : Nat} (ht : t < nx (M.1 11)) {ci : Nat} (hk : tci (M.2.1 12 t) = ci) : ∃ fs, h (A.1 7 t) = some (oB ci fs) := by
  have e := hR.th ht
  rw [hk] at e
  exact ⟨_, e⟩
theorem w_mba {Z : WZ} {lv : List (Option Value)} {st : List Value} {rc rs t : Nat} {mode parts : Int32} (hR : RH G hp A M h) (ht : t < nx (M.1 11)) (hst : (st.map fun v => v.category).sum ≤ 8) (kk : wp l G mX11_ask Z 41 lv (.int (bi (askOk M t mode parts)) :: st) h rc rs) : wp l G mX11_ask Z 38 lv (.int parts :: .int mode :: .ref (A.1 7 t) :: st) h rc rs := by
  by_cases h1 : M.2.1 12 t = 1
  · obtain ⟨fs, hc⟩ := th_ci G hR ht (ci := 8) (by rw [h1]; rfl)
    exact wc_UP (pc := 38) (μ2 := mX7_mayBeAsked) (rc := rc) (rs := rs) [_, _] dX11_ask_38 rfl hc rfl cu_X11_160_8 rfl ⟨(Nat.le_of_ble_eq_true rfl), (Nat.le_of_ble_eq_true rfl)⟩ hst (c_mba_8 l G hR ht h1) kk
  · by_cases h2 : M.2.1 12 t = 2
    · obtain ⟨fs, hc⟩ := th_ci G hR ht (ci := 1) (by rw [h2]; rfl)
      exact wc_UP (pc := 38) (μ2 := mX0_mayBeAsked) (rc := rc) (rs := rs) [_, _] dX11_ask_38 rfl hc rfl cu_X11_160_1 rfl ⟨(Nat.le_of_ble_eq_true rfl), (Nat.le_of_ble_eq_true rfl)⟩ hst (c_mba_1 l G hR ht h2) kk
    · by_cases h3 : M.2.1 12 t = 3
      · obtain ⟨fs, hc⟩ := th_ci G hR ht (ci := 7) (by rw [h3]; rfl)
        exact wc_UP (pc := 38) (μ2 := mX6_mayBeAsked) (rc := rc) (rs := rs) [_, _] dX11_ask_38 rfl hc rfl cu_X11_160_7 rfl ⟨(Nat.le_of_ble_eq_true rfl), (Nat.le_of_ble_eq_true rfl)⟩ hst (c_mba_7 l G hR ht h3) kk
      · by_cases h4 : M.2.1 12 t = 4
        · obtain ⟨fs, hc⟩ := th_ci G hR ht (ci := 10) (by rw [h4]; rfl)
          exact wc_VP (pc := 38) (μ2 := mX4_mayBeAsked) (rc := rc) (rs := rs) [_, _] dX11_ask_38 rfl hc rfl cv_X11_160_10 rfl ⟨(Nat.le_of_ble_eq_true rfl), (Nat.le_of_ble_eq_true rfl)⟩ hst (c_mba_5 l G hR ht h1 h2 h3) kk
        · obtain ⟨fs, hc⟩ := th_ci G hR ht (ci := 5) (by unfold tci; rw [if_neg h1, if_neg h2, if_neg h3, if_neg h4])
          exact wc_VP (pc := 38) (μ2 := mX4_mayBeAsked) (rc := rc) (rs := rs) [_, _] dX11_ask_38 rfl hc rfl cv_X11_160_5 rfl ⟨(Nat.le_of_ble_eq_true rfl), (Nat.le_of_ble_eq_true rfl)⟩ hst (c_mba_5 l G hR ht h1 h2 h3) kk
end K16a
/-- what a holder's act is refused by -/
def rth (M : MS) (w k t : Int32) : Int32 := if thr M w k t = false then -2 else if M.2.1 10 (nx w) = 0 then -3 else if M.2.1 29 (20 * nx w + nx t) = 0 then -3 else if nx (M.1 35) + 1 ≤ 400 then 0 else -4
theorem rth_0 {M : MS} {w k t : Int32} (h : rth M w k t = 0) : thr M w k t = true ∧ ¬ M.2.1 10 (nx w) = 0 ∧ ¬ M.2.1 29 (20 * nx w + nx t) = 0 ∧ nx (M.1 35) < 400 := by
  unfold rth at h
  split at h
  · exact absurd h (by decide)
  · rename_i z1
    split at h
    · exact absurd h (by decide)
    · rename_i z2
      split at h
      · exact absurd h (by decide)
      · rename_i z3
        split at h
        · exact ⟨by simpa using z1, z2, z3, by omega⟩
        · exact absurd h (by decide)
theorem n400 {M : MS} (hL : M.1 35 = nI (nx (M.1 35))) (hb : nx (M.1 35) ≤ 400) : (M.1 35 = 400) ↔ ¬ nx (M.1 35) + 1 ≤ 400 := by
  constructor
  · intro z; rw [z]; decide
  · intro z
    rw [hL, show nx (M.1 35) = 400 by omega]; rfl
theorem rth_n {M : MS} {w k t : Int32} (hL : M.1 35 = nI (nx (M.1 35))) (hb : nx (M.1 35) ≤ 400) (h : ¬ rth M w k t = 0) : f_renew M w k t = (rth M w k t, M) ∧ f_end M w k t = (rth M w k t, M) ∧ (M.2.1 12 (nx t) = 3 → f_rise M w k t = (rth M w k t, M)) := by
  unfold rth at h ⊢
  unfold f_renew f_end f_rise f_marked
  by_cases z1 : thr M w k t = false
  · exact ⟨by simp only [if_pos z1], by simp only [if_pos z1], fun e => by simp only [if_pos z1]⟩
  · by_cases z2 : M.2.1 10 (nx w) = 0
    · exact ⟨by simp only [if_neg z1, if_pos z2], by simp only [if_neg z1, if_pos z2], fun e => by simp only [if_neg z1, if_pos e, if_pos z2]⟩
    · by_cases z3 : M.2.1 29 (20 * nx w + nx t) = 0
      · exact ⟨by simp only [if_neg z1, if_neg z2, if_pos z3], by simp only [if_neg z1, if_neg z2, if_pos z3], fun e => by simp only [if_neg z1, if_pos e, if_neg z2, if_pos z3]⟩
      · by_cases z4 : nx (M.1 35) + 1 ≤ 400
        · exact absurd (by simp only [if_neg z1, if_neg z2, if_neg z3, if_pos z4]) h
        · have z5 := (n400 hL hb).mpr z4
          exact ⟨by simp only [if_neg z1, if_neg z2, if_neg z3, if_neg z4, if_pos z5], by simp only [if_neg z1, if_neg z2, if_neg z3, if_neg z4, if_pos z5], fun e => by simp only [if_neg z1, if_pos e, if_neg z2, if_neg z3, if_neg z4, if_pos z5]⟩
section K16
variable (l : Launch) (G : WG) {hp h : Hp} {A : AD} {M : MS}
theorem thr_1 {M : MS} {w k t : Int32} (h : isIx w (nx (M.1 6)) = false) : thr M w k t = false := by unfold thr; rw [if_pos h]
theorem thr_2 {M : MS} {w k t : Int32} (h : isIx k (nx (M.1 2)) = false) : thr M w k t = false := by
  unfold thr
  by_cases z : isIx w (nx (M.1 6)) = false
  · rw [if_pos z]
  · rw [if_neg z, if_pos h]
theorem thr_3 {M : MS} {w k t : Int32} (h : isIx t (nx (M.1 11)) = false) : thr M w k t = false := by
  unfold thr
  by_cases z : isIx w (nx (M.1 6)) = false
  · rw [if_pos z]
  · by_cases y : isIx k (nx (M.1 2)) = false
    · rw [if_neg z, if_pos y]
    · rw [if_neg z, if_neg y, if_pos h]
theorem thr_a {M : MS} {w k t : Int32} (h1 : isIx w (nx (M.1 6)) = true) (h2 : isIx k (nx (M.1 2)) = true) (h3 : isIx t (nx (M.1 11)) = true) : thr M w k t = true := by unfold thr; simp only [h1, h2, h3, Bool.true_eq_false, if_false]
theorem mAt_f {A : AD} {M : MS} {w k t : Int32} (h : mAt A M w t = none) : thr M w k t = false := by
  cases h1 : isIx w (nx (M.1 6)) with
  | false => exact thr_1 h1
  | true => exact thr_3 (mAt_n h h1)
theorem c_rth (w k t : Int32) (hR : RH G hp A M h) (hb : bnd M) : SpP l G mX11_refusalToHolder [.ref (A.1 0 0), .int w, .int k, .int t] h (.int (rth M w k t)) := by
  refine Sp.intro (lv := [_, _, _, _, _, _]) (by decide) rfl (Nat.le_of_ble_eq_true rfl) ?_
  refine wp_widen (rc' := 0) (rs' := 0) (Nat.le_refl _) (Nat.le_refl _) ?_
  have hb9 := hb
  unfold bnd at hb9
  refine wp_aload_n (pc := 0) dX11_refusalToHolder_0 rfl rfl ?_
  refine wp_iload_n (pc := 1) dX11_refusalToHolder_1 rfl rfl ?_
  refine wc_VP (pc := 2) (μ2 := mX11_workerAt) (rc := 0) (rs := 0) [_] dX11_refusalToHolder_2 rfl hR.bd rfl cv_X11_127_12 rfl ⟨(Nat.le_of_ble_eq_true rfl), (Nat.le_of_ble_eq_true rfl)⟩ (Nat.le_of_ble_eq_true rfl) (c_workerAt l G _ hR hb) ?_
  refine wp_astoreQ (pc := 5) (lv' := [_, _, _, _, _, _]) dX11_refusalToHolder_5 (Nat.le_of_ble_eq_true rfl) rfl rfl ?_
  refine wp_aload_n (pc := 7) dX11_refusalToHolder_7 rfl rfl ?_
  refine wp_iload_n (pc := 8) dX11_refusalToHolder_8 rfl rfl ?_
  refine wp_iload_n (pc := 9) dX11_refusalToHolder_9 rfl rfl ?_
  refine wc_VP (pc := 10) (μ2 := mX11_memoryAt) (rc := 0) (rs := 0) [_, _] dX11_refusalToHolder_10 rfl hR.bd rfl cv_X11_186_12 rfl ⟨(Nat.le_of_ble_eq_true rfl), (Nat.le_of_ble_eq_true rfl)⟩ (Nat.le_of_ble_eq_true rfl) (c_memoryAt l G _ _ hR hb) ?_
  refine wp_astoreQ (pc := 13) (lv' := [_, _, _, _, _, _]) dX11_refusalToHolder_13 (Nat.le_of_ble_eq_true rfl) (by simp [lv9, cat2_rf]) rfl ?_
  refine wp_aloadQ (pc := 15) dX11_refusalToHolder_15 rfl ?_
  refine wp_ifnull (pc := 17) (tgt := 33) dX11_refusalToHolder_17 (by decide) (fun c17 => ?_) (fun a17 c17 => ?_)
  · skip
    refine wp_bipush (pc := 33) (v := (-2)) dX11_refusalToHolder_33 (by decide) ?_
    exact wp_iret (pc := 35) dX11_refusalToHolder_35 rfl ⟨by unfold rth; rw [if_pos (thr_1 (oAt_n c17))], rfl⟩
  · obtain ⟨i, hi, rfl, rfl⟩ := oAt_s c17 (by omega)
    rw [oAt_t hi (by omega)]
    have i1 := isIx_nI hi (show nx (M.1 6) < 2 ^ 31 by omega)
    have e1 : nx (nI i) = i := nx_nI (by omega)
    refine wp_aloadQ (pc := 20) dX11_refusalToHolder_20 rfl ?_
    refine wp_ifnull (pc := 22) (tgt := 33) dX11_refusalToHolder_22 (by decide) (fun c22 => ?_) (fun a22 c22 => ?_)
    · skip
      refine wp_bipush (pc := 33) (v := (-2)) dX11_refusalToHolder_33 (by decide) ?_
      exact wp_iret (pc := 35) dX11_refusalToHolder_35 rfl ⟨by unfold rth; rw [if_pos (mAt_f c22)], rfl⟩
    · obtain ⟨k2, j, hk2, hj, ei, rfl, rfl⟩ := mAt_s hb c22
      obtain rfl : i = k2 := (nI_eq (by omega) (by omega)).mp ei
      rw [mAt_t hb hi hj]
      have i2 := isIx_nI hj (show nx (M.1 11) < 2 ^ 31 by omega)
      have e2 : nx (nI j) = j := nx_nI (by omega)
      refine wp_aload_n (pc := 25) dX11_refusalToHolder_25 rfl rfl ?_
      refine wp_iload_n (pc := 26) dX11_refusalToHolder_26 rfl rfl ?_
      refine wc_VP (pc := 27) (μ2 := mX11_keeperAt) (rc := 0) (rs := 0) [_] dX11_refusalToHolder_27 rfl hR.bd rfl cv_X11_144_12 rfl ⟨(Nat.le_of_ble_eq_true rfl), (Nat.le_of_ble_eq_true rfl)⟩ (Nat.le_of_ble_eq_true rfl) (c_keeperAt l G _ hR hb) ?_
      refine wp_ifnonnull (pc := 30) (tgt := 36) dX11_refusalToHolder_30 (by decide) (fun a30 c30 => ?_) (fun c30 => ?_)
      · have i3 := oAt_i c30
        refine wp_aload (pc := 36) dX11_refusalToHolder_36 rfl ?_
        refine wp_get (pc := 38) dX11_refusalToHolder_38 fl_X11_143_11 (hR.wk hi) rfl ?_
        refine wp_if_eq (pc := 41) (tgt := 52) dX11_refusalToHolder_41 (by decide) (fun c41 => ?_) (fun c41 => ?_)
        · skip
          refine wp_bipush (pc := 52) (v := (-3)) dX11_refusalToHolder_52 (by decide) ?_
          exact wp_iret (pc := 54) dX11_refusalToHolder_54 rfl ⟨by unfold rth; rw [thr_a i1 i3 i2, if_neg (by decide), e1, e2]; simp only [eq_true c41, if_true, if_false, Bool.true_eq_false, Bool.false_eq_true, reduceIte, reduceCtorEq, Bool.not_true, Bool.not_false, true_and, and_true, and_false, false_and, or_true, true_or, or_false, false_or, not_true_eq_false, not_false_eq_true], rfl⟩
        · skip
          refine wp_aload (pc := 44) dX11_refusalToHolder_44 rfl ?_
          refine wp_get (pc := 46) dX11_refusalToHolder_46 fl_X11_135_4 (hR.mm (i := 20 * i + j) (by omega)) rfl ?_
          refine wp_if_ne (pc := 49) (tgt := 55) dX11_refusalToHolder_49 (by decide) (fun c49 => ?_) (fun c49 => ?_)
          · skip
            refine wp_aload_n (pc := 55) dX11_refusalToHolder_55 rfl rfl ?_
            refine wp_iconst (pc := 56) (v := 1) dX11_refusalToHolder_56 (by decide) ?_
            refine wc_VP (pc := 57) (μ2 := mX11_hasRoomFor) (rc := 0) (rs := 0) [_] dX11_refusalToHolder_57 rfl hR.bd rfl cv_X11_165_12 rfl ⟨(Nat.le_of_ble_eq_true rfl), (Nat.le_of_ble_eq_true rfl)⟩ (Nat.le_of_ble_eq_true rfl) (c_hasRoomFor l G _ hR hb (by decide)) ?_
            refine wp_ifB_eq (pc := 60) (tgt := 67) dX11_refusalToHolder_60 (by decide) (fun c60 => ?_) (fun c60 => ?_)
            · skip
              refine wp_bipush (pc := 67) (v := (-4)) dX11_refusalToHolder_67 (by decide) ?_
              exact wp_iret (pc := 69) dX11_refusalToHolder_69 rfl ⟨by unfold rth; rw [thr_a i1 i3 i2, if_neg (by decide), e1, e2]; simp only [eq_false c41, eq_false c49, if_true, if_false, Bool.true_eq_false, Bool.false_eq_true, reduceIte, reduceCtorEq, Bool.not_true, Bool.not_false, true_and, and_true, and_false, false_and, or_true, true_or, or_false, false_or, not_true_eq_false, not_false_eq_true]; rw [if_neg (of_decide_eq_false c60)], rfl⟩
            · skip
              refine wp_iconst (pc := 63) (v := 0) dX11_refusalToHolder_63 (by decide) ?_
              refine wp_goto (pc := 64) (tgt := 69) dX11_refusalToHolder_64 (by decide) ?_
              exact wp_iret (pc := 69) dX11_refusalToHolder_69 rfl ⟨by unfold rth; rw [thr_a i1 i3 i2, if_neg (by decide), e1, e2]; simp only [eq_false c41, eq_false c49, if_true, if_false, Bool.true_eq_false, Bool.false_eq_true, reduceIte, reduceCtorEq, Bool.not_true, Bool.not_false, true_and, and_true, and_false, false_and, or_true, true_or, or_false, false_or, not_true_eq_false, not_false_eq_true]; rw [if_pos (of_decide_eq_true c60)], rfl⟩
          · skip
            refine wp_bipush (pc := 52) (v := (-3)) dX11_refusalToHolder_52 (by decide) ?_
            exact wp_iret (pc := 54) dX11_refusalToHolder_54 rfl ⟨by unfold rth; rw [thr_a i1 i3 i2, if_neg (by decide), e1, e2]; simp only [eq_false c41, eq_true c49, if_true, if_false, Bool.true_eq_false, Bool.false_eq_true, reduceIte, reduceCtorEq, Bool.not_true, Bool.not_false, true_and, and_true, and_false, false_and, or_true, true_or, or_false, false_or, not_true_eq_false, not_false_eq_true], rfl⟩
      · skip
        refine wp_bipush (pc := 33) (v := (-2)) dX11_refusalToHolder_33 (by decide) ?_
        exact wp_iret (pc := 35) dX11_refusalToHolder_35 rfl ⟨by unfold rth; rw [if_pos (thr_2 (oAt_n c30))], rfl⟩
theorem k_renew (w k t : Int32) (hR : RH G hp A M h) (hb : bnd M) (hT : tidy M) (hL : M.1 35 = nI (nx (M.1 35))) : KS l G hp A mX11_renew [.int w, .int k, .int t] M h (.int (f_renew M w k t).1) ((f_renew M w k t).2) := by
  refine Sp.intro (lv := [_, _, _, _, _, _, _]) (by decide) rfl (Nat.le_of_ble_eq_true rfl) ?_
  refine wp_widen (rc' := 2) (rs' := 610) (Nat.le_refl _) (Nat.le_refl _) ?_
  have hb9 := hb
  unfold bnd at hb9
  refine wp_aload_n (pc := 0) dX11_renew_0 rfl rfl ?_
  refine wp_iload_n (pc := 1) dX11_renew_1 rfl rfl ?_
  refine wp_iload_n (pc := 2) dX11_renew_2 rfl rfl ?_
  refine wp_iload_n (pc := 3) dX11_renew_3 rfl rfl ?_
  refine wc_VP (pc := 4) (μ2 := mX11_refusalToHolder) (rc := 2) (rs := 610) [_, _, _] dX11_renew_4 rfl hR.bd rfl cv_X11_182_12 rfl ⟨(Nat.le_of_ble_eq_true rfl), (Nat.le_of_ble_eq_true rfl)⟩ (Nat.le_of_ble_eq_true rfl) (c_rth l G _ _ _ hR hb) ?_
  refine wp_istore (pc := 7) (lv' := [_, _, _, _, _, _, _]) dX11_renew_7 (Nat.le_of_ble_eq_true rfl) rfl rfl ?_
  refine wp_aload_n (pc := 9) dX11_renew_9 rfl rfl ?_
  refine wp_iload_n (pc := 10) dX11_renew_10 rfl rfl ?_
  refine wp_iload_n (pc := 11) dX11_renew_11 rfl rfl ?_
  refine wc_VP (pc := 12) (μ2 := mX11_memoryAt) (rc := 2) (rs := 610) [_, _] dX11_renew_12 rfl hR.bd rfl cv_X11_186_12 rfl ⟨(Nat.le_of_ble_eq_true rfl), (Nat.le_of_ble_eq_true rfl)⟩ (Nat.le_of_ble_eq_true rfl) (c_memoryAt l G _ _ hR hb) ?_
  refine wp_astoreQ (pc := 15) (lv' := [_, _, _, _, _, _, _]) dX11_renew_15 (Nat.le_of_ble_eq_true rfl) rfl rfl ?_
  refine wp_iload (pc := 17) dX11_renew_17 rfl ?_
  refine wp_if_ne (pc := 19) (tgt := 27) dX11_renew_19 (by decide) (fun c19 => ?_) (fun c19 => ?_)
  · skip
    refine wp_iload (pc := 27) dX11_renew_27 rfl ?_
    exact wp_iret (pc := 29) dX11_renew_29 rfl ⟨_, rfl, by rw [(rth_n hL hb9.2.2.2.1 c19).1], A, by rw [(rth_n hL hb9.2.2.2.1 c19).1]; exact hR, ext.refl A M⟩
  · obtain ⟨z1, z2, z3, hL4⟩ := rth_0 c19
    obtain ⟨y1, y2, y3⟩ := thr_t z1
    obtain ⟨i, hi, rfl⟩ := isIx_t y1 (by omega)
    obtain ⟨j, hj, rfl⟩ := isIx_t y3 (by omega)
    have e1 : nx (nI i) = i := nx_nI (by omega)
    have e2 : nx (nI j) = j := nx_nI (by omega)
    rw [e1, e2] at z3
    rw [e1] at z2
    have n4 : ¬ M.1 35 = 400 := fun z => ((n400 hL hb9.2.2.2.1).mp z) (by omega)
    rw [mAt_t hb hi hj]
    have hf : f_renew M (nI i) k (nI j) = (M.1 35, mkdM M (nx (M.1 35)) 1 i k j (M.2.1 30 (20 * i + j)) (M.2.1 31 (20 * i + j)) (M.2.2 33 (20 * i + j))) := by unfold f_renew f_marked; rw [if_neg (by rw [z1]; decide), e1, e2, if_neg z2, if_neg z3, if_neg n4]
    refine wp_aload (pc := 22) dX11_renew_22 rfl ?_
    refine wp_ifnonnullR (pc := 24) (tgt := 30) dX11_renew_24 (by decide) ?_
    refine wp_newC (pc := 30) (rc := 1) (rs := 600) (ci := 3) (fs := [.int 0, .int 0, .int 0, .int 0, .int 0, .int 0, .long 0, .int 0, .long 0, .int 0]) dX11_renew_30 nw_X11_169 rfl nd_3 (fun e h en ec ef => ?_)
    have hpn := hR.hpn en
    have ene := hR.ngE en
    have hg := hR.2.2.2.1
    have hR := hR.fresh en ec ef
    refine wp_dup (pc := 33) dX11_renew_33 rfl ?_
    refine wp_iconst (pc := 34) (v := 1) dX11_renew_34 (by decide) ?_
    refine wp_iload_n (pc := 35) dX11_renew_35 rfl rfl ?_
    refine wp_iload_n (pc := 36) dX11_renew_36 rfl rfl ?_
    refine wp_iload_n (pc := 37) dX11_renew_37 rfl rfl ?_
    refine wc_IN (pc := 38) (μ2 := mX2_init) (rc := 1) (rs := 600) [_, _, _, _] dX11_renew_38 rfl cc_X11_171 rfl ⟨(Nat.le_of_ble_eq_true rfl), (Nat.le_of_ble_eq_true rfl)⟩ (Nat.le_of_ble_eq_true rfl) (c_i2 l G _ (hR.pr (up_s ..))) (fun h q => ?_)
    obtain ⟨ec, ef⟩ := q
    have hR := hR.upf ene ec ef
    refine wp_astore (pc := 41) (lv' := [_, _, _, _, _, _, _]) dX11_renew_41 (Nat.le_of_ble_eq_true rfl) rfl rfl ?_
    refine wp_aload (pc := 43) dX11_renew_43 rfl ?_
    refine wp_aload (pc := 45) dX11_renew_45 rfl ?_
    refine wp_get (pc := 47) dX11_renew_47 fl_X11_190_4 (hR.mm (i := 20 * i + j) (by omega)) rfl ?_
    refine wp_aload (pc := 50) dX11_renew_50 rfl ?_
    refine wp_get (pc := 52) dX11_renew_52 fl_X11_193_4 (hR.mm (i := 20 * i + j) (by omega)) rfl ?_
    refine wp_aload (pc := 55) dX11_renew_55 rfl ?_
    refine wp_get (pc := 57) dX11_renew_57 fl_X11_196_4 (hR.mm (i := 20 * i + j) (by omega)) rfl ?_
    refine wc_VN (pc := 60) (μ2 := mX2_fill) (rc := 1) (rs := 600) [_, _, _] dX11_renew_60 rfl (hR.pr (up_s ..)) rfl cv_X11_174_3 rfl ⟨(Nat.le_of_ble_eq_true rfl), (Nat.le_of_ble_eq_true rfl)⟩ (Nat.le_of_ble_eq_true rfl) (c_fill l G _ (hR.pr (up_s ..))) (fun h q => ?_)
    obtain ⟨ec, ef⟩ := q
    have hR := hR.upf ene ec ef
    refine wp_aload_n (pc := 63) dX11_renew_63 rfl rfl ?_
    refine wp_aload (pc := 64) dX11_renew_64 rfl ?_
    refine wc_VV (pc := 66) (μ2 := mX11_sendMarked) (rc := 0) (rs := 0) [_] dX11_renew_66 rfl hR.bd rfl cv_X11_178_12 rfl ⟨(Nat.le_of_ble_eq_true rfl), (Nat.le_of_ble_eq_true rfl)⟩ (Nat.le_of_ble_eq_true rfl) (c_sendMarked l G hpn ene hR hb hT hL hL4 hi hj hg) (fun r h q => ?_)
    obtain ⟨rfl, A9, hR, hE⟩ := q
    exact wp_iret (pc := 69) dX11_renew_69 rfl ⟨_, rfl, by rw [hf], A9, by rw [hf]; exact hR, hE⟩
theorem end_snt {M : MS} {kp : Int32} {w t : Nat} (hL : M.1 35 = nI (nx (M.1 35))) (hL4 : nx (M.1 35) < 400) : snt (sI (sI M 29 (20 * w + t) 0) 32 (20 * w + t) 0) (endM M (nx (M.1 35)) w kp t) (nx (M.1 35)) := by
  have hc3 := cntS hL (by omega)
  refine ⟨fun f hf => ?_, ?_, fun f i hf => ?_, fun f i hf => ?_⟩
  · simp only [endM, sndM, sS_at, sI_1, sL_0, if_neg hf]
  · simp only [endM, sndM, sS_at, sI_1, sL_0, if_true]; exact hc3.2.2
  · have hn : ∀ g, g ∈ ([36, 37, 38, 39, 40, 41, 42, 43] : List Nat) → ¬ (f = g ∧ i = nx (M.1 35)) := fun g hg z => hf.elim (fun q => q (z.1 ▸ hg)) (fun q => q z.2)
    simp only [endM, sndM, sS_1, sL_1, sI_at, hn 36 (by decide), hn 37 (by decide), hn 38 (by decide), hn 39 (by decide), hn 40 (by decide), hn 41 (by decide), hn 42 (by decide), hn 43 (by decide), if_false]
  · have hn : ∀ g, g ∈ ([44, 45] : List Nat) → ¬ (f = g ∧ i = nx (M.1 35)) := fun g hg z => hf.elim (fun q => q (z.1 ▸ hg)) (fun q => q z.2)
    simp only [endM, sndM, sS_2, sI_2, sL_at, hn 44 (by decide), hn 45 (by decide), if_false]
theorem k_end (w k t : Int32) (hR : RH G hp A M h) (hb : bnd M) (hT : tidy M) (hL : M.1 35 = nI (nx (M.1 35))) : KS l G hp A mX11_end [.int w, .int k, .int t] M h (.int (f_end M w k t).1) ((f_end M w k t).2) := by
  refine Sp.intro (lv := [_, _, _, _, _, _, _]) (by decide) rfl (Nat.le_of_ble_eq_true rfl) ?_
  refine wp_widen (rc' := 2) (rs' := 610) (Nat.le_refl _) (Nat.le_refl _) ?_
  have hb9 := hb
  unfold bnd at hb9
  refine wp_aload_n (pc := 0) dX11_end_0 rfl rfl ?_
  refine wp_iload_n (pc := 1) dX11_end_1 rfl rfl ?_
  refine wp_iload_n (pc := 2) dX11_end_2 rfl rfl ?_
  refine wp_iload_n (pc := 3) dX11_end_3 rfl rfl ?_
  refine wc_VP (pc := 4) (μ2 := mX11_refusalToHolder) (rc := 2) (rs := 610) [_, _, _] dX11_end_4 rfl hR.bd rfl cv_X11_182_12 rfl ⟨(Nat.le_of_ble_eq_true rfl), (Nat.le_of_ble_eq_true rfl)⟩ (Nat.le_of_ble_eq_true rfl) (c_rth l G _ _ _ hR hb) ?_
  refine wp_istore (pc := 7) (lv' := [_, _, _, _, _, _, _]) dX11_end_7 (Nat.le_of_ble_eq_true rfl) rfl rfl ?_
  refine wp_aload_n (pc := 9) dX11_end_9 rfl rfl ?_
  refine wp_iload_n (pc := 10) dX11_end_10 rfl rfl ?_
  refine wp_iload_n (pc := 11) dX11_end_11 rfl rfl ?_
  refine wc_VP (pc := 12) (μ2 := mX11_memoryAt) (rc := 2) (rs := 610) [_, _] dX11_end_12 rfl hR.bd rfl cv_X11_186_12 rfl ⟨(Nat.le_of_ble_eq_true rfl), (Nat.le_of_ble_eq_true rfl)⟩ (Nat.le_of_ble_eq_true rfl) (c_memoryAt l G _ _ hR hb) ?_
  refine wp_astoreQ (pc := 15) (lv' := [_, _, _, _, _, _, _]) dX11_end_15 (Nat.le_of_ble_eq_true rfl) rfl rfl ?_
  refine wp_iload (pc := 17) dX11_end_17 rfl ?_
  refine wp_if_ne (pc := 19) (tgt := 27) dX11_end_19 (by decide) (fun c19 => ?_) (fun c19 => ?_)
  · skip
    refine wp_iload (pc := 27) dX11_end_27 rfl ?_
    exact wp_iret (pc := 29) dX11_end_29 rfl ⟨_, rfl, by rw [(rth_n hL hb9.2.2.2.1 c19).2.1], A, by rw [(rth_n hL hb9.2.2.2.1 c19).2.1]; exact hR, ext.refl A M⟩
  · obtain ⟨z1, z2, z3, hL4⟩ := rth_0 c19
    obtain ⟨y1, y2, y3⟩ := thr_t z1
    obtain ⟨i, hi, rfl⟩ := isIx_t y1 (by omega)
    obtain ⟨j, hj, rfl⟩ := isIx_t y3 (by omega)
    have e1 : nx (nI i) = i := nx_nI (by omega)
    have e2 : nx (nI j) = j := nx_nI (by omega)
    rw [e1, e2] at z3
    rw [e1] at z2
    have n4 : ¬ M.1 35 = 400 := fun z => ((n400 hL hb9.2.2.2.1).mp z) (by omega)
    rw [mAt_t hb hi hj]
    have hf : f_end M (nI i) k (nI j) = (M.1 35, endM M (nx (M.1 35)) i k j) := by unfold f_end; rw [if_neg (by rw [z1]; decide), e1, e2, if_neg z2, if_neg z3, if_neg n4]
    have hm : 20 * i + j < 20 * nx (M.1 6) := by omega
    refine wp_aload (pc := 22) dX11_end_22 rfl ?_
    refine wp_ifnonnullR (pc := 24) (tgt := 30) dX11_end_24 (by decide) ?_
    refine wp_newC (pc := 30) (rc := 1) (rs := 600) (ci := 3) (fs := [.int 0, .int 0, .int 0, .int 0, .int 0, .int 0, .long 0, .int 0, .long 0, .int 0]) dX11_end_30 nw_X11_169 rfl nd_3 (fun e h en ec ef => ?_)
    have hpn := hR.hpn en
    have ene := hR.ngE en
    have hg := hR.2.2.2.1
    have hR := hR.fresh en ec ef
    refine wp_dup (pc := 33) dX11_end_33 rfl ?_
    refine wp_iconst (pc := 34) (v := 2) dX11_end_34 (by decide) ?_
    refine wp_iload_n (pc := 35) dX11_end_35 rfl rfl ?_
    refine wp_iload_n (pc := 36) dX11_end_36 rfl rfl ?_
    refine wp_iload_n (pc := 37) dX11_end_37 rfl rfl ?_
    refine wc_IN (pc := 38) (μ2 := mX2_init) (rc := 1) (rs := 600) [_, _, _, _] dX11_end_38 rfl cc_X11_171 rfl ⟨(Nat.le_of_ble_eq_true rfl), (Nat.le_of_ble_eq_true rfl)⟩ (Nat.le_of_ble_eq_true rfl) (c_i2 l G _ (hR.pr (up_s ..))) (fun h q => ?_)
    obtain ⟨ec, ef⟩ := q
    have hR := hR.upf ene ec ef
    refine wp_astore (pc := 41) (lv' := [_, _, _, _, _, _, _]) dX11_end_41 (Nat.le_of_ble_eq_true rfl) rfl rfl ?_
    refine wp_aload (pc := 43) dX11_end_43 rfl ?_
    refine wp_aload (pc := 45) dX11_end_45 rfl ?_
    refine wp_get (pc := 47) dX11_end_47 fl_X11_190_4 (hR.mm (i := 20 * i + j) (by omega)) rfl ?_
    refine wp_aload (pc := 50) dX11_end_50 rfl ?_
    refine wp_get (pc := 52) dX11_end_52 fl_X11_193_4 (hR.mm (i := 20 * i + j) (by omega)) rfl ?_
    refine wp_aload (pc := 55) dX11_end_55 rfl ?_
    refine wp_get (pc := 57) dX11_end_57 fl_X11_196_4 (hR.mm (i := 20 * i + j) (by omega)) rfl ?_
    refine wc_VN (pc := 60) (μ2 := mX2_fill) (rc := 1) (rs := 600) [_, _, _] dX11_end_60 rfl (hR.pr (up_s ..)) rfl cv_X11_174_3 rfl ⟨(Nat.le_of_ble_eq_true rfl), (Nat.le_of_ble_eq_true rfl)⟩ (Nat.le_of_ble_eq_true rfl) (c_fill l G _ (hR.pr (up_s ..))) (fun h q => ?_)
    obtain ⟨ec, ef⟩ := q
    have hR := hR.upf ene ec ef
    refine wp_aload (pc := 63) dX11_end_63 rfl ?_
    refine wc_VN (pc := 65) (μ2 := mX3_forget) (rc := 1) (rs := 600) [] dX11_end_65 rfl (hR.mm (i := 20 * i + j) (by omega)) rfl cv_X11_140_4 rfl ⟨(Nat.le_of_ble_eq_true rfl), (Nat.le_of_ble_eq_true rfl)⟩ (Nat.le_of_ble_eq_true rfl) (c_forget l G hR hm) (fun h q => ?_)
    have hR := q
    refine wp_aload_n (pc := 68) dX11_end_68 rfl rfl ?_
    refine wp_aload (pc := 69) dX11_end_69 rfl ?_
    refine wc_VV (pc := 71) (μ2 := mX11_send) (rc := 0) (rs := 0) [_] dX11_end_71 rfl hR.bd rfl cv_X11_200_12 rfl ⟨(Nat.le_of_ble_eq_true rfl), (Nat.le_of_ble_eq_true rfl)⟩ (Nat.le_of_ble_eq_true rfl) (c_send (hp := hp) (M' := endM M (nx (M.1 35)) i k j) l G hR (tidy_3 hT rfl rfl rfl rfl rfl) hL hL4 (end_snt hL hL4) (by rw [up_s]; simp [cLt, endM, sndM, sI, sL, sS, fu]) (hhp_u hpn) hg) (fun r h q => ?_)
    obtain ⟨rfl, A9, hR, hE, -⟩ := q
    exact wp_iret (pc := 74) dX11_end_74 rfl ⟨_, rfl, by rw [hf, ← hL], A9, by rw [hf]; exact hR, hE⟩
theorem rise_n {M : MS} {w k t : Int32} (h : ¬ (isIx t (nx (M.1 11)) = true ∧ M.2.1 12 (nx t) = 3)) : f_rise M w k t = (-2, M) := by
  unfold f_rise
  cases hz : thr M w k t with
  | false => rw [if_pos rfl]
  | true => rw [if_neg (by decide), if_neg (fun e => h ⟨(thr_t hz).2.2, e⟩)]
theorem k_rise (w k t : Int32) (hR : RH G hp A M h) (hb : bnd M) (hT : tidy M) (hL : M.1 35 = nI (nx (M.1 35))) : KS l G hp A mX11_rise [.int w, .int k, .int t] M h (.int (f_rise M w k t).1) ((f_rise M w k t).2) := by
  refine Sp.intro (lv := [_, _, _, _, _, _, _]) (by decide) rfl (Nat.le_of_ble_eq_true rfl) ?_
  refine wp_widen (rc' := 2) (rs' := 610) (Nat.le_refl _) (Nat.le_refl _) ?_
  have hb9 := hb
  unfold bnd at hb9
  refine wp_aload_n (pc := 0) dX11_rise_0 rfl rfl ?_
  refine wp_iload_n (pc := 1) dX11_rise_1 rfl rfl ?_
  refine wc_VP (pc := 2) (μ2 := mX11_thingAt) (rc := 2) (rs := 610) [_] dX11_rise_2 rfl hR.bd rfl cv_X11_156_12 rfl ⟨(Nat.le_of_ble_eq_true rfl), (Nat.le_of_ble_eq_true rfl)⟩ (Nat.le_of_ble_eq_true rfl) (c_thingAt l G _ hR hb) ?_
  rcases hq5 : oAt A 7 t (nx (M.1 11)) with _ | a5
  · refine wp_instN (pc := 5) dX11_rise_5 ?_
    refine wp_if_ne (pc := 8) (tgt := 14) dX11_rise_8 (by decide) (fun z => absurd (by decide) z) (fun _ => ?_)
    refine wp_bipush (pc := 11) (v := (-2)) dX11_rise_11 (by decide) ?_
    exact wp_iret (pc := 13) dX11_rise_13 rfl ⟨_, rfl, by rw [rise_n (fun z => by rw [oAt_n hq5] at z; cases z.1)], A, by rw [rise_n (fun z => by rw [oAt_n hq5] at z; cases z.1)]; exact hR, ext.refl A M⟩
  · obtain ⟨j9, hj9, ej9, rfl⟩ := oAt_s hq5 (by omega)
    refine wp_instT 3 (pc := 5) dX11_rise_5 (hR.th hj9) it_X11_203 (fun c5 => ?_) (fun c5 => ?_)
    · have hk3 : M.2.1 12 (nx t) = 3 := by rw [ej9, nx_nI (show j9 < 2 ^ 31 by omega)]; exact c5
      refine wp_if_ne (pc := 8) (tgt := 14) dX11_rise_8 (by decide) (fun _ => ?_) (fun z => absurd z (by decide))
      refine wp_aload_n (pc := 14) dX11_rise_14 rfl rfl ?_
      refine wp_iload_n (pc := 15) dX11_rise_15 rfl rfl ?_
      refine wp_iload_n (pc := 16) dX11_rise_16 rfl rfl ?_
      refine wp_iload_n (pc := 17) dX11_rise_17 rfl rfl ?_
      refine wc_VP (pc := 18) (μ2 := mX11_refusalToHolder) (rc := 2) (rs := 610) [_, _, _] dX11_rise_18 rfl hR.bd rfl cv_X11_182_12 rfl ⟨(Nat.le_of_ble_eq_true rfl), (Nat.le_of_ble_eq_true rfl)⟩ (Nat.le_of_ble_eq_true rfl) (c_rth l G _ _ _ hR hb) ?_
      refine wp_istore (pc := 21) (lv' := [_, _, _, _, _, _, _]) dX11_rise_21 (Nat.le_of_ble_eq_true rfl) rfl rfl ?_
      refine wp_aload_n (pc := 23) dX11_rise_23 rfl rfl ?_
      refine wp_iload_n (pc := 24) dX11_rise_24 rfl rfl ?_
      refine wp_iload_n (pc := 25) dX11_rise_25 rfl rfl ?_
      refine wc_VP (pc := 26) (μ2 := mX11_memoryAt) (rc := 2) (rs := 610) [_, _] dX11_rise_26 rfl hR.bd rfl cv_X11_186_12 rfl ⟨(Nat.le_of_ble_eq_true rfl), (Nat.le_of_ble_eq_true rfl)⟩ (Nat.le_of_ble_eq_true rfl) (c_memoryAt l G _ _ hR hb) ?_
      refine wp_astoreQ (pc := 29) (lv' := [_, _, _, _, _, _, _]) dX11_rise_29 (Nat.le_of_ble_eq_true rfl) rfl rfl ?_
      refine wp_iload (pc := 31) dX11_rise_31 rfl ?_
      refine wp_if_ne (pc := 33) (tgt := 41) dX11_rise_33 (by decide) (fun c33 => ?_) (fun c33 => ?_)
      · skip
        refine wp_iload (pc := 41) dX11_rise_41 rfl ?_
        exact wp_iret (pc := 43) dX11_rise_43 rfl ⟨_, rfl, by rw [(rth_n hL hb9.2.2.2.1 c33).2.2 hk3], A, by rw [(rth_n hL hb9.2.2.2.1 c33).2.2 hk3]; exact hR, ext.refl A M⟩
      · obtain ⟨z1, z2, z3, hL4⟩ := rth_0 c33
        obtain ⟨y1, y2, y3⟩ := thr_t z1
        obtain ⟨i, hi, rfl⟩ := isIx_t y1 (by omega)
        obtain ⟨j, hj, rfl⟩ := isIx_t y3 (by omega)
        have e1 : nx (nI i) = i := nx_nI (by omega)
        have e2 : nx (nI j) = j := nx_nI (by omega)
        rw [e1, e2] at z3
        rw [e1] at z2
        have n4 : ¬ M.1 35 = 400 := fun z => ((n400 hL hb9.2.2.2.1).mp z) (by omega)
        rw [mAt_t hb hi hj]
        have hf : f_rise M (nI i) k (nI j) = (M.1 35, mkdM M (nx (M.1 35)) 3 i k j 0 0 (M.2.2 33 (20 * i + j))) := by unfold f_rise f_marked; rw [if_neg (by rw [z1]; decide), e1, e2, if_pos (by rw [e2] at hk3; exact hk3), if_neg z2, if_neg z3, if_neg n4]
        refine wp_aload (pc := 36) dX11_rise_36 rfl ?_
        refine wp_ifnonnullR (pc := 38) (tgt := 44) dX11_rise_38 (by decide) ?_
        refine wp_newC (pc := 44) (rc := 1) (rs := 600) (ci := 3) (fs := [.int 0, .int 0, .int 0, .int 0, .int 0, .int 0, .long 0, .int 0, .long 0, .int 0]) dX11_rise_44 nw_X11_169 rfl nd_3 (fun e h en ec ef => ?_)
        have hpn := hR.hpn en
        have ene := hR.ngE en
        have hg := hR.2.2.2.1
        have hR := hR.fresh en ec ef
        refine wp_dup (pc := 47) dX11_rise_47 rfl ?_
        refine wp_iconst (pc := 48) (v := 3) dX11_rise_48 (by decide) ?_
        refine wp_iload_n (pc := 49) dX11_rise_49 rfl rfl ?_
        refine wp_iload_n (pc := 50) dX11_rise_50 rfl rfl ?_
        refine wp_iload_n (pc := 51) dX11_rise_51 rfl rfl ?_
        refine wc_IN (pc := 52) (μ2 := mX2_init) (rc := 1) (rs := 600) [_, _, _, _] dX11_rise_52 rfl cc_X11_171 rfl ⟨(Nat.le_of_ble_eq_true rfl), (Nat.le_of_ble_eq_true rfl)⟩ (Nat.le_of_ble_eq_true rfl) (c_i2 l G _ (hR.pr (up_s ..))) (fun h q => ?_)
        obtain ⟨ec, ef⟩ := q
        have hR := hR.upf ene ec ef
        refine wp_astore (pc := 55) (lv' := [_, _, _, _, _, _, _]) dX11_rise_55 (Nat.le_of_ble_eq_true rfl) rfl rfl ?_
        refine wp_aload (pc := 57) dX11_rise_57 rfl ?_
        refine wp_iconst (pc := 59) (v := 0) dX11_rise_59 (by decide) ?_
        refine wp_iconst (pc := 60) (v := 0) dX11_rise_60 (by decide) ?_
        refine wp_aload (pc := 61) dX11_rise_61 rfl ?_
        refine wp_get (pc := 63) dX11_rise_63 fl_X11_196_4 (hR.mm (i := 20 * i + j) (by omega)) rfl ?_
        refine wc_VN (pc := 66) (μ2 := mX2_fill) (rc := 1) (rs := 600) [_, _, _] dX11_rise_66 rfl (hR.pr (up_s ..)) rfl cv_X11_174_3 rfl ⟨(Nat.le_of_ble_eq_true rfl), (Nat.le_of_ble_eq_true rfl)⟩ (Nat.le_of_ble_eq_true rfl) (c_fill l G _ (hR.pr (up_s ..))) (fun h q => ?_)
        obtain ⟨ec, ef⟩ := q
        have hR := hR.upf ene ec ef
        refine wp_aload_n (pc := 69) dX11_rise_69 rfl rfl ?_
        refine wp_aload (pc := 70) dX11_rise_70 rfl ?_
        refine wc_VV (pc := 72) (μ2 := mX11_sendMarked) (rc := 0) (rs := 0) [_] dX11_rise_72 rfl hR.bd rfl cv_X11_178_12 rfl ⟨(Nat.le_of_ble_eq_true rfl), (Nat.le_of_ble_eq_true rfl)⟩ (Nat.le_of_ble_eq_true rfl) (c_sendMarked l G hpn ene hR hb hT hL hL4 hi hj hg) (fun r h q => ?_)
        obtain ⟨rfl, A9, hR, hE⟩ := q
        exact wp_iret (pc := 75) dX11_rise_75 rfl ⟨_, rfl, by rw [hf], A9, by rw [hf]; exact hR, hE⟩
    · have hk3 : ¬ M.2.1 12 (nx t) = 3 := by rw [ej9, nx_nI (show j9 < 2 ^ 31 by omega)]; exact c5
      refine wp_if_ne (pc := 8) (tgt := 14) dX11_rise_8 (by decide) (fun z => absurd (by decide) z) (fun _ => ?_)
      refine wp_bipush (pc := 11) (v := (-2)) dX11_rise_11 (by decide) ?_
      exact wp_iret (pc := 13) dX11_rise_13 rfl ⟨_, rfl, by rw [rise_n (fun z => hk3 z.2)], A, by rw [rise_n (fun z => hk3 z.2)]; exact hR, ext.refl A M⟩
end K16
