/-! ===== the class: look; END and RISE are heard ===== -/
theorem mnt_gof {M : MS} {j t a : Nat} (h : mnt M j t = some a) : gof M t (M.2.1 37 j) (nx (M.2.1 21 t)) = some a := by
  unfold mnt at h
  cases hz : gof M t (M.2.1 37 j) (nx (M.2.1 21 t)) with
  | none => rw [hz] at h; cases h
  | some b =>
    rw [hz] at h
    simp only at h
    split at h
    · exact h
    · cases h
section K24
variable (l : Launch) (G : WG) {hp h : Hp} {A : AD} {M : MS}
theorem look_3 {M : MS} {A : AD} {v : Int32} (i1 : isIx v (nx (M.1 11)) = true) (hc : (if isMst M = true then oAt A 3 (M.1 27) (nx (M.1 2)) else none) = none) (hLd : M.1 27 = -1 ∨ ∃ k, k < nx (M.1 2) ∧ M.1 27 = nI k) (hb : nx (M.1 2) ≤ 5 := by omega) : f_look M v = (-3, M) := by
  unfold f_look
  rw [if_neg (by rw [i1]; decide)]
  by_cases z : M.1 27 = -1
  · rw [if_pos z]
  · rw [if_neg z]
    by_cases y : isMst M = true
    · rw [if_pos y] at hc
      obtain ⟨k, hk, e⟩ := hLd.resolve_left z
      rw [e, oAt_t hk (by omega)] at hc
      cases hc
    · rw [if_pos (by simpa using y)]
theorem k_look (v : Int32) (hR : RH G hp A M h) (hb : bnd M) (hK : M.1 2 = nI (nx (M.1 2))) (hT : tidy M) (hL : M.1 35 = nI (nx (M.1 35))) (hTh : ∀ t, t < nx (M.1 11) → thI M t) (hLd : M.1 27 = -1 ∨ ∃ k, k < nx (M.1 2) ∧ M.1 27 = nI k) : KS l G hp A mX11_look [.int v] M h (.int (f_look M v).1) ((f_look M v).2) := by
  refine Sp.intro (lv := [_, _, _, _]) (by decide) rfl (Nat.le_of_ble_eq_true rfl) ?_
  refine wp_widen (rc' := 2) (rs' := 610) (Nat.le_refl _) (Nat.le_refl _) ?_
  have hb9 := hb
  unfold bnd at hb9
  refine wp_aload_n (pc := 0) dX11_look_0 rfl rfl ?_
  refine wp_iload_n (pc := 1) dX11_look_1 rfl rfl ?_
  refine wc_VP (pc := 2) (μ2 := mX11_thingAt) (rc := 2) (rs := 610) [_] dX11_look_2 rfl hR.bd rfl cv_X11_156_12 rfl ⟨(Nat.le_of_ble_eq_true rfl), (Nat.le_of_ble_eq_true rfl)⟩ (Nat.le_of_ble_eq_true rfl) (c_thingAt l G _ hR hb) ?_
  refine wp_astore_nQ (pc := 5) (lv' := [_, _, _, _]) dX11_look_5 rfl (Nat.le_of_ble_eq_true rfl) rfl rfl ?_
  refine wp_aload_nQ (pc := 6) dX11_look_6 rfl rfl ?_
  refine wp_ifnonnull (pc := 7) (tgt := 13) dX11_look_7 (by decide) (fun a7 c7 => ?_) (fun c7 => ?_)
  · obtain ⟨j, hj, rfl, rfl⟩ := oAt_s c7 (by omega)
    rw [oAt_t hj (by omega)]
    have i1 := isIx_nI hj (show nx (M.1 11) < 2 ^ 31 by omega)
    have e1 : nx (nI j) = j := nx_nI (by omega)
    have hTI := hTh j hj
    refine wp_aload_n (pc := 13) dX11_look_13 rfl rfl ?_
    refine wc_VP (pc := 14) (μ2 := mX11_ableLeader) (rc := 2) (rs := 610) [] dX11_look_14 rfl hR.bd rfl cv_X11_246_12 rfl ⟨(Nat.le_of_ble_eq_true rfl), (Nat.le_of_ble_eq_true rfl)⟩ (Nat.le_of_ble_eq_true rfl) (c_ableLeader l G hR hb hK) ?_
    refine wp_astore_nQ (pc := 17) (lv' := [_, _, _, _]) dX11_look_17 rfl (Nat.le_of_ble_eq_true rfl) rfl rfl ?_
    refine wp_aload_nQ (pc := 18) dX11_look_18 rfl rfl ?_
    refine wp_ifnonnull (pc := 19) (tgt := 25) dX11_look_19 (by decide) (fun a19 c19 => ?_) (fun c19 => ?_)
    · have hmo : isMst M = true ∧ ∃ k, k < nx (M.1 2) ∧ M.1 27 = nI k ∧ a19 = A.1 3 k := by
        by_cases z : isMst M = true
        · rw [if_pos z] at c19
          obtain ⟨k, hk, e, e'⟩ := oAt_s c19 (by omega)
          exact ⟨z, k, hk, e, e'⟩
        · rw [if_neg z] at c19; cases c19
      obtain ⟨hmst, k, hk, e27, rfl⟩ := hmo
      rw [c19]
      have n1 : ¬ M.1 27 = -1 := by rw [e27]; exact nI_m1 (by omega)
      have ek : nx (M.1 27) = k := by rw [e27]; exact nx_nI (by omega)
      refine wp_aload_n (pc := 25) dX11_look_25 rfl rfl ?_
      refine wp_iconst (pc := 26) (v := 1) dX11_look_26 (by decide) ?_
      refine wc_VP (pc := 27) (μ2 := mX11_hasRoomFor) (rc := 2) (rs := 610) [_] dX11_look_27 rfl hR.bd rfl cv_X11_165_12 rfl ⟨(Nat.le_of_ble_eq_true rfl), (Nat.le_of_ble_eq_true rfl)⟩ (Nat.le_of_ble_eq_true rfl) (c_hasRoomFor l G _ hR hb (by decide)) ?_
      refine wp_ifB_ne (pc := 30) (tgt := 36) dX11_look_30 (by decide) (fun c30 => ?_) (fun c30 => ?_)
      · have h63 : nx (M.1 35) + 1 ≤ 400 := of_decide_eq_true c30
        have hf : f_look M (nI j) = ((looksM M j).2.1 21 j, looksM M j) := by unfold f_look; rw [if_neg (by rw [i1]; decide), if_neg n1, if_neg (by rw [hmst]; decide), if_neg (fun z => ((n400 hL hb9.2.2.2.1).mp z) h63), e1]
        refine wp_aload_n (pc := 36) dX11_look_36 rfl rfl ?_
        refine wp_aload_n (pc := 37) dX11_look_37 rfl rfl ?_
        refine wp_iload_n (pc := 38) dX11_look_38 rfl rfl ?_
        refine wp_aload_n (pc := 39) dX11_look_39 rfl rfl ?_
        refine wp_aload_n (pc := 40) dX11_look_40 rfl rfl ?_
        refine wp_get (pc := 41) dX11_look_41 fl_X11_43_12 hR.bd rfl ?_
        refine wc_VP (pc := 44) (μ2 := mX5_shows) (rc := 2) (rs := 610) [_] dX11_look_44 rfl (hR.kp hk) rfl cv_X11_119_6 rfl ⟨(Nat.le_of_ble_eq_true rfl), (Nat.le_of_ble_eq_true rfl)⟩ (Nat.le_of_ble_eq_true rfl) (c_shows6 l G _ (hR.kp hk)) ?_
        refine wc_VN (pc := 47) (μ2 := mX11_lookAt) (rc := 0) (rs := 0) [_, _, _] dX11_look_47 rfl hR.bd rfl cv_X11_250_12 rfl ⟨(Nat.le_of_ble_eq_true rfl), (Nat.le_of_ble_eq_true rfl)⟩ (Nat.le_of_ble_eq_true rfl) (c_lookAt l G _ hR hb hT hL (by omega) hj hTI (by rw [ek]; rfl)) (fun h q => ?_)
        obtain ⟨A9, hR, hE⟩ := q
        obtain ⟨⟨g9, hg8, hg7⟩, -⟩ := looks_cnt M j hTI.1 hTI.2.1 hTI.2.2.1 hTI.2.2.2.1 hTI.2.2.2.2.1
        have hg20 := hTI.2.1
        have hg9 : nI (nx ((looksM M j).2.1 21 j)) = (looksM M j).2.1 21 j := by rw [hg7, nx_nI (by omega)]
        have hj9 : j < nx ((looksM M j).1 11) := by rw [(looks_ok M j).1 11 (by decide)]; exact hj
        have e7 : A9.1 7 j = A.1 7 j := hE 7 j (by decide) (by decide) (vl_7.mpr hj)
        rw [← e7]
        refine wp_aload_n (pc := 50) dX11_look_50 rfl rfl ?_
        refine wp_getT (pc := 51) dX11_look_51 ft_X11_254 (hR.th hj9) rfl ?_
        refine wc_VP (pc := 54) (μ2 := mJx4a65c_size_8abf5) (rc := 0) (rs := 0) [] dX11_look_54 rfl (hR.lst (ll := j + 4) (by omega)) rfl cv_X11_87_0 rfl ⟨(Nat.le_of_ble_eq_true rfl), (Nat.le_of_ble_eq_true rfl)⟩ (Nat.le_of_ble_eq_true rfl) (show SpP l G mJx4a65c_size_8abf5 [_] _ (.int (nI (nx ((looksM M j).2.1 21 j)))) from j_size l G _ (hR.lst (ll := j + 4) (by omega))) ?_
        exact wp_iret (pc := 57) dX11_look_57 rfl ⟨_, rfl, by rw [hf]; exact congrArg Value.int hg9, A9, by rw [hf]; exact hR, hE⟩
      · skip
        refine wp_bipush (pc := 33) (v := (-4)) dX11_look_33 (by decide) ?_
        exact wp_iret (pc := 35) dX11_look_35 rfl ⟨_, rfl, by unfold f_look; rw [if_neg (by rw [i1]; decide), if_neg n1, if_neg (by rw [hmst]; decide), if_pos ((n400 hL hb9.2.2.2.1).mpr (of_decide_eq_false c30))], A, by unfold f_look; rw [if_neg (by rw [i1]; decide), if_neg n1, if_neg (by rw [hmst]; decide), if_pos ((n400 hL hb9.2.2.2.1).mpr (of_decide_eq_false c30))]; exact hR, ext.refl A M⟩
    · skip
      refine wp_bipush (pc := 22) (v := (-3)) dX11_look_22 (by decide) ?_
      exact wp_iret (pc := 24) dX11_look_24 rfl ⟨_, rfl, by rw [look_3 i1 c19 hLd], A, by rw [look_3 i1 c19 hLd]; exact hR, ext.refl A M⟩
  · skip
    refine wp_bipush (pc := 10) (v := (-2)) dX11_look_10 (by decide) ?_
    exact wp_iret (pc := 12) dX11_look_12 rfl ⟨_, rfl, by unfold f_look; rw [if_pos (oAt_n c7)], A, by unfold f_look; rw [if_pos (oAt_n c7)]; exact hR, ext.refl A M⟩
theorem c_hearEnd {j t : Nat} (hR : RH G hp A M h) (hT : tidy M) (hL : M.1 35 = nI (nx (M.1 35))) (hL4 : nx (M.1 35) < 400) (hj : j < nx (M.1 35)) (ht : t < nx (M.1 11)) (hb : bnd M) (hTI : thI M t) (htj : M.2.1 39 j = nI t) (hU : ∀ p q, p < nx (M.2.1 21 t) → q < nx (M.2.1 21 t) → M.2.1 22 (20 * t + p) = M.2.1 22 (20 * t + q) → p = q) : SpN l G mX11_hearEnd [.ref (A.1 0 0), .ref (A.1 9 j), .ref (A.1 7 t), .long (kClk M (nx (M.1 27)))] h (fun h' => ∃ A', RH G hp A' (match mnt M j t with | none => M | some a => looksM (goM M t a (nx (M.2.1 21 t) - 1 - a)) t) h' ∧ ext A M A') := by
  refine Sp.intro (lv := [_, _, _, _, _]) (by decide) rfl (Nat.le_of_ble_eq_true rfl) ?_
  refine wp_widen (rc' := 2) (rs' := 610) (Nat.le_refl _) (Nat.le_refl _) ?_
  have h20 := hT.1 t ht
  refine wp_aload_n (pc := 0) dX11_hearEnd_0 rfl rfl ?_
  refine wp_aload_n (pc := 1) dX11_hearEnd_1 rfl rfl ?_
  refine wc_TP (pc := 2) (μ2 := mX4_grantMeantBy) (rc := 2) (rs := 610) [_] dX11_hearEnd_2 rfl (hR.th ht) ct_X11_473 rfl ⟨(Nat.le_of_ble_eq_true rfl), (Nat.le_of_ble_eq_true rfl)⟩ (Nat.le_of_ble_eq_true rfl) (c_grantMeantBy l G hR hT ht hj) ?_
  refine wp_ifnull (pc := 5) (tgt := 26) dX11_hearEnd_5 (by decide) (fun c5 => ?_) (fun a5 c5 => ?_)
  · skip
    exact wp_vret (pc := 26) dX11_hearEnd_26 rfl ⟨rfl, A, by rw [gMn_n c5]; exact hR, ext.refl A M⟩
  · obtain ⟨a, g0, ha, -⟩ := gMn_s c5
    have hw := (gof_lt (mnt_gof g0)).2
    refine wp_aload_n (pc := 8) dX11_hearEnd_8 rfl rfl ?_
    refine wp_aload_n (pc := 9) dX11_hearEnd_9 rfl rfl ?_
    refine wp_get (pc := 10) dX11_hearEnd_10 fl_X11_224_3 (hR.lt hj) rfl ?_
    refine wc_TN (pc := 13) (μ2 := mX4_dropGrantOf) (rc := 2) (rs := 610) [_] dX11_hearEnd_13 rfl (hR.th ht) ct_X11_480 rfl ⟨(Nat.le_of_ble_eq_true rfl), (Nat.le_of_ble_eq_true rfl)⟩ (Nat.le_of_ble_eq_true rfl) (c_dropGrantOf (a := a) l G _ hR hT ht hTI.1 ha hw (fun q hq z => hU q a hq ha (z.trans hw.symm))) (fun h q => ?_)
    obtain ⟨A1, hR, hE, -⟩ := q
    obtain ⟨M2, hM2⟩ : ∃ M2, M2 = goM M t a (nx (M.2.1 21 t) - 1 - a) := ⟨_, rfl⟩
    rw [← hM2] at hR
    have l1 : sameT M2 M t := by rw [hM2]; exact goM_sT M t a _ (by omega)
    have z3 : M2.2.1 21 t = nI (nx (M.2.1 21 t) - 1) := by rw [hM2]; exact goM_n _ hTI.1 (by omega)
    have e0 : A1.1 0 0 = A.1 0 0 := hE 0 0 (by decide) (by decide) (vl_0.mpr rfl)
    have e7 : A1.1 7 t = A.1 7 t := hE 7 t (by decide) (by decide) (vl_7.mpr ht)
    have e9 : A1.1 9 j = A.1 9 j := hE 9 j (by decide) (by decide) (vl_9.mpr hj)
    rw [← e0, ← e7, ← e9]
    have hk1 : ∀ k, k ≠ 21 → k ∉ ([22, 23, 24] : List Nat) → ∀ i, M2.2.1 k i = M.2.1 k i := fun k a b i => l1.2.1 k i a (Or.inl b)
    have hTI1 : thI M2 t := thI_of hTI z3 (by omega) (hk1 16 (by decide) (by decide) t) (hk1 20 (by decide) (by decide) t) (hk1 12 (by decide) (by decide) t) (hk1 15 (by decide) (by decide) t) (hk1 14 (by decide) (by decide) t)
    have ht1 : t < nx (M2.1 11) := by rw [l1.1]; exact ht
    have hj1 : j < nx (M2.1 35) := by rw [l1.1]; exact hj
    have hT1 : tidy M2 := tidy_sT l1 hT z3 (by omega)
    have hb1 : bnd M2 := bnd_of (by rw [l1.1]) (by rw [l1.1]) (by rw [l1.1]) (by rw [l1.1]) (by rw [l1.1]) hb
    have hck : kClk M (nx (M.1 27)) = kClk M2 (nx (M2.1 27)) := by unfold kClk; rw [l1.1, hk1 3 (by decide) (by decide), hk1 4 (by decide) (by decide)]
    refine wp_aload_n (pc := 16) dX11_hearEnd_16 rfl rfl ?_
    refine wp_aload_n (pc := 17) dX11_hearEnd_17 rfl rfl ?_
    refine wp_aload_n (pc := 18) dX11_hearEnd_18 rfl rfl ?_
    refine wp_get (pc := 19) dX11_hearEnd_19 fl_X11_230_3 (hR.lt hj1) rfl ?_
    rw [show M2.2.1 39 j = nI t by rw [hk1 39 (by decide) (by decide)]; exact htj]
    refine wp_lload_n (pc := 22) dX11_hearEnd_22 rfl rfl ?_
    refine wc_VN (pc := 23) (μ2 := mX11_lookAt) (rc := 0) (rs := 0) [_, _, _] dX11_hearEnd_23 rfl hR.bd rfl cv_X11_250_12 rfl ⟨(Nat.le_of_ble_eq_true rfl), (Nat.le_of_ble_eq_true rfl)⟩ (Nat.le_of_ble_eq_true rfl) (c_lookAt l G _ hR hb1 hT1 (by rw [l1.1]; exact hL) (by rw [l1.1]; exact hL4) ht1 hTI1 hck) (fun h q => ?_)
    obtain ⟨A9, hR, hE9⟩ := q
    exact wp_vret (pc := 26) dX11_hearEnd_26 rfl ⟨rfl, A9, by rw [g0]; show RH G hp A9 (looksM (goM M t a (nx (M.2.1 21 t) - 1 - a)) t) _; rw [← hM2]; exact hR, hE.tr hE9 l1.grw⟩
theorem c_riseReader {j t a : Nat} (hR : RH G hp A M h) (hT : tidy M) (hL : M.1 35 = nI (nx (M.1 35))) (hL4 : nx (M.1 35) < 400) (hj : j < nx (M.1 35)) (ht : t < nx (M.1 11)) (hk : M.2.1 12 t = 3) (ha : a < nx (M.2.1 21 t)) (hg : M.2.1 21 t = nI (nx (M.2.1 21 t))) : SpN l G mX11_riseReader [.ref (A.1 0 0), .ref (A.1 9 j), .ref (A.1 7 t), .ref (A.1 8 (20 * t + a)), .long (kClk M (nx (M.1 27)))] h (fun h' => ∃ A', RH G hp A' (if ¬ M.2.1 15 t = -1 ∧ ¬ M.2.1 15 t = M.2.1 37 j then rfsM M j else if M.2.1 21 t = 1 then grsM (sI (grtM (sI (sI M 15 t (M.2.1 37 j)) 23 (20 * t) 0) t 0) 15 t (-1)) j t 0 else sI M 15 t (M.2.1 37 j)) h' ∧ ext A M A') := by
  refine Sp.intro (lv := [_, _, _, _, _, _]) (by decide) rfl (Nat.le_of_ble_eq_true rfl) ?_
  refine wp_widen (rc' := 2) (rs' := 610) (Nat.le_refl _) (Nat.le_refl _) ?_
  have h20 := hT.1 t ht
  have hll : t + 4 < 4 + nx (M.1 11) := by omega
  refine wp_aload_n (pc := 0) dX11_riseReader_0 rfl rfl ?_
  refine wp_get (pc := 1) dX11_riseReader_1 fl_X11_282_7 (hR.thR ht hk) rfl ?_
  refine wp_iconst (pc := 4) (v := (-1)) dX11_riseReader_4 (by decide) ?_
  refine wp_icmp_eq (pc := 5) (tgt := 25) dX11_riseReader_5 (by decide) (fun c5 => ?_) (fun c5 => ?_)
  · skip
    refine wp_aload_n (pc := 25) dX11_riseReader_25 rfl rfl ?_
    refine wp_aload_n (pc := 26) dX11_riseReader_26 rfl rfl ?_
    refine wp_get (pc := 27) dX11_riseReader_27 fl_X11_224_3 (hR.lt hj) rfl ?_
    refine wp_putC (pc := 30) dX11_riseReader_30 fl_X11_282_7 (hR.thR ht hk) (Or.inl rfl) (Nat.le_of_ble_eq_true rfl) rfl rfl rfl (fun h hq1 hq2 => ?_)
    have hR := RH.k7 (A' := A) hR (M' := sI (M) 15 t (M.2.1 37 j)) ((chg.refl _ _ _ _).sI (by decide) _) (vl_7.mpr ht) (fun t' ht' hn => hR.2.2.2.2.2 t' ht' hn) ⟨rfl, rfl, rfl, fun _ _ => rfl⟩ (by rw [hq1]; simp [cc, cTh, tEx, lng, tci, sI, sL, fu, hk]) hq2
    refine wp_aload_n (pc := 33) dX11_riseReader_33 rfl rfl ?_
    refine wp_get (pc := 34) dX11_riseReader_34 fl_X11_487_7 (hR.thR ht hk) rfl ?_
    refine wc_VP (pc := 37) (μ2 := mJx4a65c_size_8abf5) (rc := 2) (rs := 610) [] dX11_riseReader_37 rfl (hR.lst (ll := t + 4) hll) rfl cv_X11_87_0 rfl ⟨(Nat.le_of_ble_eq_true rfl), (Nat.le_of_ble_eq_true rfl)⟩ (Nat.le_of_ble_eq_true rfl) (show SpP l G mJx4a65c_size_8abf5 [_] _ (.int (nI (nx (M.2.1 21 t)))) from j_size l G _ (hR.lst (ll := t + 4) hll)) ?_
    refine wp_iconst (pc := 40) (v := 1) dX11_riseReader_40 (by decide) ?_
    refine wp_icmp_ne (pc := 41) (tgt := 68) dX11_riseReader_41 (by decide) (fun c41 => ?_) (fun c41 => ?_)
    · skip
      exact wp_vret (pc := 68) dX11_riseReader_68 rfl ⟨rfl, A, by rw [if_neg (fun z => z.1 c5), if_neg (fun z => c41 (hg.symm.trans z))]; exact hR, ext.refl A M⟩
    · have hg1 : nx (M.2.1 21 t) = 1 := by rw [hg.trans c41]; rfl
      obtain rfl : a = 0 := by omega
      refine wp_aload_n (pc := 44) dX11_riseReader_44 rfl rfl ?_
      refine wp_iconst (pc := 45) (v := 0) dX11_riseReader_45 (by decide) ?_
      refine wp_putC (pc := 46) dX11_riseReader_46 fl_X11_264_2 (hR.gi (tidy_3 hT rfl rfl rfl rfl rfl) ht ha) (Or.inl rfl) (Nat.le_of_ble_eq_true rfl) rfl rfl rfl (fun h hq1 hq2 => ?_)
      have hR := hR.k8 (M' := sI (sI (M) 15 t (M.2.1 37 j)) 23 (20 * t + 0) (0)) ((chg.refl _ _ _ _).sI (by decide) _) (vl8 (by omega) ht ha) (by rw [hq1]; simp [cc, cGr, sI, sL, sS, fu]) hq2
      refine wp_aload_n (pc := 49) dX11_riseReader_49 rfl rfl ?_
      refine wp_aload_n (pc := 50) dX11_riseReader_50 rfl rfl ?_
      refine wp_aload_n (pc := 51) dX11_riseReader_51 rfl rfl ?_
      refine wp_lload (pc := 52) dX11_riseReader_52 rfl ?_
      refine wc_VN (pc := 54) (μ2 := mX11_giveNumber) (rc := 2) (rs := 610) [_, _, _] dX11_riseReader_54 rfl hR.bd rfl cv_X11_452_12 rfl ⟨(Nat.le_of_ble_eq_true rfl), (Nat.le_of_ble_eq_true rfl)⟩ (Nat.le_of_ble_eq_true rfl) (c_giveNumber (M := sI (sI M 15 t (M.2.1 37 j)) 23 (20 * t + 0) (0)) (a := 0) l G hR (tidy_3 hT rfl rfl rfl rfl rfl) ht ha) (fun h q => ?_)
      have hR := q
      refine wp_aload_n (pc := 57) dX11_riseReader_57 rfl rfl ?_
      refine wp_iconst (pc := 58) (v := (-1)) dX11_riseReader_58 (by decide) ?_
      refine wp_putC (pc := 59) dX11_riseReader_59 fl_X11_282_7 (hR.thR ht hk) (Or.inl rfl) (Nat.le_of_ble_eq_true rfl) rfl rfl rfl (fun h hq1 hq2 => ?_)
      have hR := RH.k7 (A' := A) hR (M' := sI (grtM (sI (sI M 15 t (M.2.1 37 j)) 23 (20 * t + 0) (0)) t 0) 15 t (-1)) ((chg.refl _ _ _ _).sI (by decide) _) (vl_7.mpr ht) (fun t' ht' hn => hR.2.2.2.2.2 t' ht' hn) ⟨rfl, rfl, rfl, fun _ _ => rfl⟩ (by rw [hq1]; simp [cc, cTh, tEx, lng, tci, sI, sL, fu, hk, grt_eq, sS]) hq2
      refine wp_aload_n (pc := 62) dX11_riseReader_62 rfl rfl ?_
      refine wp_aload_n (pc := 63) dX11_riseReader_63 rfl rfl ?_
      refine wp_aload_n (pc := 64) dX11_riseReader_64 rfl rfl ?_
      refine wc_VN (pc := 65) (μ2 := mX11_answerGrant) (rc := 0) (rs := 0) [_, _] dX11_riseReader_65 rfl hR.bd rfl cv_X11_459_12 rfl ⟨(Nat.le_of_ble_eq_true rfl), (Nat.le_of_ble_eq_true rfl)⟩ (Nat.le_of_ble_eq_true rfl) (c_answerGrant (M := sI (grtM (sI (sI M 15 t (M.2.1 37 j)) 23 (20 * t + 0) (0)) t 0) 15 t (-1)) (a := 0) l G hR (tidy_3 hT rfl rfl rfl rfl rfl) hL hL4 hj ht ha) (fun h q => ?_)
      obtain ⟨A9, hR, hE⟩ := q
      exact wp_vret (pc := 68) dX11_riseReader_68 rfl ⟨rfl, A9, by rw [if_neg (fun z => z.1 c5), if_pos (hg.trans c41)]; exact hR, hE⟩
  · skip
    refine wp_aload_n (pc := 8) dX11_riseReader_8 rfl rfl ?_
    refine wp_get (pc := 9) dX11_riseReader_9 fl_X11_282_7 (hR.thR ht hk) rfl ?_
    refine wp_aload_n (pc := 12) dX11_riseReader_12 rfl rfl ?_
    refine wp_get (pc := 13) dX11_riseReader_13 fl_X11_224_3 (hR.lt hj) rfl ?_
    refine wp_icmp_eq (pc := 16) (tgt := 25) dX11_riseReader_16 (by decide) (fun c16 => ?_) (fun c16 => ?_)
    · skip
      refine wp_aload_n (pc := 25) dX11_riseReader_25 rfl rfl ?_
      refine wp_aload_n (pc := 26) dX11_riseReader_26 rfl rfl ?_
      refine wp_get (pc := 27) dX11_riseReader_27 fl_X11_224_3 (hR.lt hj) rfl ?_
      refine wp_putC (pc := 30) dX11_riseReader_30 fl_X11_282_7 (hR.thR ht hk) (Or.inl rfl) (Nat.le_of_ble_eq_true rfl) rfl rfl rfl (fun h hq1 hq2 => ?_)
      have hR := RH.k7 (A' := A) hR (M' := sI (M) 15 t (M.2.1 37 j)) ((chg.refl _ _ _ _).sI (by decide) _) (vl_7.mpr ht) (fun t' ht' hn => hR.2.2.2.2.2 t' ht' hn) ⟨rfl, rfl, rfl, fun _ _ => rfl⟩ (by rw [hq1]; simp [cc, cTh, tEx, lng, tci, sI, sL, fu, hk]) hq2
      refine wp_aload_n (pc := 33) dX11_riseReader_33 rfl rfl ?_
      refine wp_get (pc := 34) dX11_riseReader_34 fl_X11_487_7 (hR.thR ht hk) rfl ?_
      refine wc_VP (pc := 37) (μ2 := mJx4a65c_size_8abf5) (rc := 2) (rs := 610) [] dX11_riseReader_37 rfl (hR.lst (ll := t + 4) hll) rfl cv_X11_87_0 rfl ⟨(Nat.le_of_ble_eq_true rfl), (Nat.le_of_ble_eq_true rfl)⟩ (Nat.le_of_ble_eq_true rfl) (show SpP l G mJx4a65c_size_8abf5 [_] _ (.int (nI (nx (M.2.1 21 t)))) from j_size l G _ (hR.lst (ll := t + 4) hll)) ?_
      refine wp_iconst (pc := 40) (v := 1) dX11_riseReader_40 (by decide) ?_
      refine wp_icmp_ne (pc := 41) (tgt := 68) dX11_riseReader_41 (by decide) (fun c41 => ?_) (fun c41 => ?_)
      · skip
        exact wp_vret (pc := 68) dX11_riseReader_68 rfl ⟨rfl, A, by rw [if_neg (fun z => z.2 c16), if_neg (fun z => c41 (hg.symm.trans z))]; exact hR, ext.refl A M⟩
      · have hg1 : nx (M.2.1 21 t) = 1 := by rw [hg.trans c41]; rfl
        obtain rfl : a = 0 := by omega
        refine wp_aload_n (pc := 44) dX11_riseReader_44 rfl rfl ?_
        refine wp_iconst (pc := 45) (v := 0) dX11_riseReader_45 (by decide) ?_
        refine wp_putC (pc := 46) dX11_riseReader_46 fl_X11_264_2 (hR.gi (tidy_3 hT rfl rfl rfl rfl rfl) ht ha) (Or.inl rfl) (Nat.le_of_ble_eq_true rfl) rfl rfl rfl (fun h hq1 hq2 => ?_)
        have hR := hR.k8 (M' := sI (sI (M) 15 t (M.2.1 37 j)) 23 (20 * t + 0) (0)) ((chg.refl _ _ _ _).sI (by decide) _) (vl8 (by omega) ht ha) (by rw [hq1]; simp [cc, cGr, sI, sL, sS, fu]) hq2
        refine wp_aload_n (pc := 49) dX11_riseReader_49 rfl rfl ?_
        refine wp_aload_n (pc := 50) dX11_riseReader_50 rfl rfl ?_
        refine wp_aload_n (pc := 51) dX11_riseReader_51 rfl rfl ?_
        refine wp_lload (pc := 52) dX11_riseReader_52 rfl ?_
        refine wc_VN (pc := 54) (μ2 := mX11_giveNumber) (rc := 2) (rs := 610) [_, _, _] dX11_riseReader_54 rfl hR.bd rfl cv_X11_452_12 rfl ⟨(Nat.le_of_ble_eq_true rfl), (Nat.le_of_ble_eq_true rfl)⟩ (Nat.le_of_ble_eq_true rfl) (c_giveNumber (M := sI (sI M 15 t (M.2.1 37 j)) 23 (20 * t + 0) (0)) (a := 0) l G hR (tidy_3 hT rfl rfl rfl rfl rfl) ht ha) (fun h q => ?_)
        have hR := q
        refine wp_aload_n (pc := 57) dX11_riseReader_57 rfl rfl ?_
        refine wp_iconst (pc := 58) (v := (-1)) dX11_riseReader_58 (by decide) ?_
        refine wp_putC (pc := 59) dX11_riseReader_59 fl_X11_282_7 (hR.thR ht hk) (Or.inl rfl) (Nat.le_of_ble_eq_true rfl) rfl rfl rfl (fun h hq1 hq2 => ?_)
        have hR := RH.k7 (A' := A) hR (M' := sI (grtM (sI (sI M 15 t (M.2.1 37 j)) 23 (20 * t + 0) (0)) t 0) 15 t (-1)) ((chg.refl _ _ _ _).sI (by decide) _) (vl_7.mpr ht) (fun t' ht' hn => hR.2.2.2.2.2 t' ht' hn) ⟨rfl, rfl, rfl, fun _ _ => rfl⟩ (by rw [hq1]; simp [cc, cTh, tEx, lng, tci, sI, sL, fu, hk, grt_eq, sS]) hq2
        refine wp_aload_n (pc := 62) dX11_riseReader_62 rfl rfl ?_
        refine wp_aload_n (pc := 63) dX11_riseReader_63 rfl rfl ?_
        refine wp_aload_n (pc := 64) dX11_riseReader_64 rfl rfl ?_
        refine wc_VN (pc := 65) (μ2 := mX11_answerGrant) (rc := 0) (rs := 0) [_, _] dX11_riseReader_65 rfl hR.bd rfl cv_X11_459_12 rfl ⟨(Nat.le_of_ble_eq_true rfl), (Nat.le_of_ble_eq_true rfl)⟩ (Nat.le_of_ble_eq_true rfl) (c_answerGrant (M := sI (grtM (sI (sI M 15 t (M.2.1 37 j)) 23 (20 * t + 0) (0)) t 0) 15 t (-1)) (a := 0) l G hR (tidy_3 hT rfl rfl rfl rfl rfl) hL hL4 hj ht ha) (fun h q => ?_)
        obtain ⟨A9, hR, hE⟩ := q
        exact wp_vret (pc := 68) dX11_riseReader_68 rfl ⟨rfl, A9, by rw [if_neg (fun z => z.2 c16), if_pos (hg.trans c41)]; exact hR, hE⟩
    · skip
      refine wp_aload_n (pc := 19) dX11_riseReader_19 rfl rfl ?_
      refine wp_aload_n (pc := 20) dX11_riseReader_20 rfl rfl ?_
      refine wc_VN (pc := 21) (μ2 := mX11_answerRefusal) (rc := 0) (rs := 0) [_] dX11_riseReader_21 rfl hR.bd rfl cv_X11_438_12 rfl ⟨(Nat.le_of_ble_eq_true rfl), (Nat.le_of_ble_eq_true rfl)⟩ (Nat.le_of_ble_eq_true rfl) (c_answerRefusal l G hR hT hL hL4 hj) (fun h q => ?_)
      obtain ⟨A9, hR, hE⟩ := q
      exact wp_vret (pc := 24) dX11_riseReader_24 rfl ⟨rfl, A9, by rw [if_pos ⟨c5, c16⟩]; exact hR, hE⟩
end K24
