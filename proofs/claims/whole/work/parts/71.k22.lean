/-! ===== the class: the board is looked at ===== -/
theorem thI_of {M M1 : MS} {t g : Nat} (h : thI M t) (h21 : M1.2.1 21 t = nI g) (hg : g ≤ 20) (h16 : M1.2.1 16 t = M.2.1 16 t) (h20 : M1.2.1 20 t = M.2.1 20 t) (h12 : M1.2.1 12 t = M.2.1 12 t) (h15 : M1.2.1 15 t = M.2.1 15 t) (h14 : M1.2.1 14 t = M.2.1 14 t) : thI M1 t := by
  obtain ⟨g1, g2, q1, q2, q3, q4, q5, q6⟩ := h
  have hx : nx (M1.2.1 21 t) = g := by rw [h21]; exact nx_nI (by omega)
  unfold thI
  rw [hx, h16, h20, h12, h15, h14]
  exact ⟨h21, hg, q1, q2, q3, q4, q5, q6⟩
theorem unq_k (M : MS) (t a q : Nat) {k : Nat} (h1 : k ≠ 16) (h2 : k ≠ 17) (h3 : k ≠ 20) : (unqM M t a q).2.1 k = M.2.1 k := (unqM_same M t a q).2.2 k h1 h2 h3
theorem unq_16 (M : MS) (t q : Nat) : (unqM M t 0 q).2.1 16 t = M.2.1 16 t - 1 ∧ (unqM M t 0 q).2.1 20 t = 0 := by
  unfold unqM
  rw [if_pos rfl]
  refine ⟨?_, by rw [sI_at, if_pos ⟨rfl, rfl⟩]⟩
  rw [sI_k _ _ _ (by decide), uqM_16, fu_s]
theorem thI_unq {M : MS} {t : Nat} (h : thI M t) (h0 : 0 < nx (M.2.1 16 t)) (h4 : M.2.1 12 t = 4) : thI (unqM M t 0 (nx (M.2.1 16 t))) t := by
  obtain ⟨g1, g2, q1, q2, q3, q4, q5, q6⟩ := h
  obtain ⟨e1, e2⟩ := unq_16 M t (nx (M.2.1 16 t))
  have e3 : M.2.1 16 t - 1 = nI (nx (M.2.1 16 t) - 1) := by rw [← subE h0, ← q1]
  have hx : nx ((unqM M t 0 (nx (M.2.1 16 t))).2.1 16 t) = nx (M.2.1 16 t) - 1 := by rw [e1, e3]; exact nx_nI (by omega)
  unfold thI
  rw [hx, e1, e2, unq_k _ _ _ _ (k := 21) (by decide) (by decide) (by decide), unq_k _ _ _ _ (k := 12) (by decide) (by decide) (by decide), unq_k _ _ _ _ (k := 15) (by decide) (by decide) (by decide), unq_k _ _ _ _ (k := 14) (by decide) (by decide) (by decide)]
  exact ⟨g1, g2, e3, by omega, fun z => absurd rfl z, fun z => absurd h4 z, q5, q6⟩
theorem lkQ_I {M : MS} {t : Nat} (c : Int64) (h : thI M t) (h4 : M.2.1 12 t = 4) : thI (lkQ M t c) t := by
  unfold lkQ
  by_cases z : M.2.1 20 t = 0
  · rw [if_pos z]; exact h
  · rw [if_neg z]
    by_cases y : c < M.2.2 19 t
    · rw [if_pos y]; exact h
    · rw [if_neg y]; exact thI_unq h (h.2.2.2.2.1 z) h4
theorem lk_no {X : MS} {t : Nat} (c : Int64) (h20 : X.2.1 20 t = 0) (h16 : X.2.1 16 t = 0) : lkC (lkQ X t c) t c = X := by
  unfold lkQ
  rw [if_pos h20]
  unfold lkC
  rw [h16, if_pos (by decide)]
theorem snd_snt {M : MS} {a b c d : Int32} (hL : M.1 35 = nI (nx (M.1 35))) (hL4 : nx (M.1 35) < 400) : snt M (sndM M (nx (M.1 35)) a b c d) (nx (M.1 35)) := by
  have hc3 := cntS hL (by omega)
  refine ⟨fun f hf => ?_, ?_, fun f i hf => ?_, fun f i hf => ?_⟩
  · simp only [sndM, sS_at, sI_1, sL_0, if_neg hf]
  · simp only [sndM, sS_at, sI_1, sL_0, if_true]; exact hc3.2.2
  · have hn : ∀ g, g ∈ ([36, 37, 38, 39, 40, 41, 42, 43] : List Nat) → ¬ (f = g ∧ i = nx (M.1 35)) := fun g hg z => hf.elim (fun q => q (z.1 ▸ hg)) (fun q => q z.2)
    simp only [sndM, sS_1, sL_1, sI_at, hn 36 (by decide), hn 37 (by decide), hn 38 (by decide), hn 39 (by decide), hn 40 (by decide), hn 41 (by decide), hn 42 (by decide), hn 43 (by decide), if_false]
  · have hn : ∀ g, g ∈ ([44, 45] : List Nat) → ¬ (f = g ∧ i = nx (M.1 35)) := fun g hg z => hf.elim (fun q => q (z.1 ▸ hg)) (fun q => q z.2)
    simp only [sndM, sS_2, sI_2, sL_at, hn 44 (by decide), hn 45 (by decide), if_false]
theorem snt.grw {M M' : MS} {L : Nat} (h : snt M M' L) (hL : nx (M.1 35) ≤ L) (hL4 : L < 400) : grw M M' := by
  refine ⟨by rw [h.1 2 (by decide)]; exact Nat.le_refl _, by rw [h.1 6 (by decide)]; exact Nat.le_refl _, by rw [h.1 11 (by decide)]; exact Nat.le_refl _, ?_, fun i => h.2.2.1 12 i (Or.inl (by decide)), fun i => h.2.2.1 54 i (Or.inl (by decide))⟩
  rw [h.2.1, nx_nI (by omega)]; omega
section K22
variable (l : Launch) (G : WG) {hp h : Hp} {A : AD} {M : MS}
theorem c_lookAt {t : Nat} (c : Int64) (hR : RH G hp A M h) (hb : bnd M) (hT : tidy M) (hL : M.1 35 = nI (nx (M.1 35))) (hL4 : nx (M.1 35) < 400) (ht : t < nx (M.1 11)) (hTI : thI M t) (hc : c = kClk M (nx (M.1 27))) : SpN l G mX11_lookAt [.ref (A.1 0 0), .ref (A.1 7 t), .int (nI t), .long c] h (fun h' => ∃ A', RH G hp A' (looksM M t) h' ∧ ext A M A') := by
  refine Sp.intro (lv := [_, _, _, _, _, _]) (by decide) rfl (Nat.le_of_ble_eq_true rfl) ?_
  refine wp_widen (rc' := 2) (rs' := 610) (Nat.le_refl _) (Nat.le_refl _) ?_
  have hb9 := hb
  unfold bnd at hb9
  have h20 := hT.1 t ht
  refine wp_aload_n (pc := 0) dX11_lookAt_0 rfl rfl ?_
  refine wp_lload_n (pc := 1) dX11_lookAt_1 rfl rfl ?_
  refine wc_TN (pc := 2) (μ2 := mX4_dropEnded) (rc := 2) (rs := 610) [_] dX11_lookAt_2 rfl (hR.th ht) ct_X11_422 rfl ⟨(Nat.le_of_ble_eq_true rfl), (Nat.le_of_ble_eq_true rfl)⟩ (Nat.le_of_ble_eq_true rfl) (c_dropEnded l G c hR hT ht hTI.1) (fun h q => ?_)
  obtain ⟨A1, hR, hE, hA1⟩ := q
  obtain ⟨M1, hM1⟩ : ∃ M1, M1 = lkM M t c 0 (nx (M.2.1 21 t)) := ⟨_, rfl⟩
  rw [← hM1] at hR
  have e0 : A1.1 0 0 = A.1 0 0 := hE 0 0 (by decide) (by decide) (vl_0.mpr rfl)
  have e7 : A1.1 7 t = A.1 7 t := hE 7 t (by decide) (by decide) (vl_7.mpr ht)
  rw [← e0, ← e7]
  obtain ⟨l1, -⟩ := lk_sT t c (nx (M.2.1 21 t)) 0 M (by rw [Nat.zero_add]; exact hTI.1) (by omega)
  obtain ⟨g8, -, z2, z3⟩ := lkM_cnt t c (nx (M.2.1 21 t)) 0 M (by rw [Nat.zero_add]; exact hTI.1)
  rw [← hM1] at l1 z3
  have hk1 : ∀ k, k ≠ 21 → k ∉ ([22, 23, 24] : List Nat) → M1.2.1 k t = M.2.1 k t := fun k a b => l1.2.1 k t a (Or.inl b)
  have hTI1 : thI M1 t := thI_of hTI z3 (by omega) (hk1 16 (by decide) (by decide)) (hk1 20 (by decide) (by decide)) (hk1 12 (by decide) (by decide)) (hk1 15 (by decide) (by decide)) (hk1 14 (by decide) (by decide))
  have ht1 : t < nx (M1.1 11) := by rw [l1.1]; exact ht
  have hT1 : tidy M1 := tidy_sT l1 hT z3 (by omega)
  have hlk : looksM M t = lkC (lkQ (lkR M1 t) t c) t c := by rw [hM1, hc]; rfl
  refine wp_aload_n (pc := 5) dX11_lookAt_5 rfl rfl ?_
  refine wp_instT 3 (pc := 6) dX11_lookAt_6 (hR.th ht1) it_X11_203 (fun c6 => ?_) (fun c6 => ?_)
  · skip
    refine wp_if_eq (pc := 9) (tgt := 23) dX11_lookAt_9 (by decide) (fun z => absurd z (by decide)) (fun _ => ?_)
    refine wp_aload_n (pc := 12) dX11_lookAt_12 rfl rfl ?_
    refine wp_cast (pc := 13) dX11_lookAt_13 (hR.thR ht1 c6) ca_X11_203_7 ?_
    refine wp_astore (pc := 16) (lv' := [_, _, _, _, _, _]) dX11_lookAt_16 (Nat.le_of_ble_eq_true rfl) rfl rfl ?_
    refine wp_aload (pc := 18) dX11_lookAt_18 rfl ?_
    refine wc_VN (pc := 20) (μ2 := mX6_dropLoneRiser) (rc := 2) (rs := 610) [] dX11_lookAt_20 rfl (hR.thR ht1 c6) rfl cv_X11_425_7 rfl ⟨(Nat.le_of_ble_eq_true rfl), (Nat.le_of_ble_eq_true rfl)⟩ (Nat.le_of_ble_eq_true rfl) (c_dropLoneRiser l G hR hT1 ht1 c6) (fun h q => ?_)
    have hR := q
    have hn4 : ¬ M1.2.1 12 t = 4 := by rw [c6]; decide
    have ht1 : t < nx ((lkR M1 t).1 11) := by rw [lkR_1]; exact ht1
    have c6 : (lkR M1 t).2.1 12 t = 3 := by rw [lkR_2 _ _ 12 (by decide)]; exact c6
    refine wp_aload_n (pc := 23) dX11_lookAt_23 rfl rfl ?_
    refine wp_instNo (pc := 24) dX11_lookAt_24 (hR.thR ht1 c6) cx_X11_285_7 ?_
    refine wp_if_eq (pc := 27) (tgt := 81) dX11_lookAt_27 (by decide) (fun _ => ?_) (fun z => absurd (by decide) z)
    exact wp_vret (pc := 81) dX11_lookAt_81 rfl ⟨rfl, A1, by rw [hlk, lk_no c (by rw [lkR_2 _ _ 20 (by decide)]; exact (hTI1.2.2.2.2.2.1 hn4).2) (by rw [lkR_2 _ _ 16 (by decide)]; exact (hTI1.2.2.2.2.2.1 hn4).1)]; exact hR, hE⟩
  · have hr1 : lkR M1 t = M1 := by unfold lkR; rw [if_pos (hTI1.2.2.2.2.2.2.1 c6)]
    refine wp_if_eq (pc := 9) (tgt := 23) dX11_lookAt_9 (by decide) (fun _ => ?_) (fun z => absurd (by decide) z)
    refine wp_aload_n (pc := 23) dX11_lookAt_23 rfl rfl ?_
    refine wp_instT 4 (pc := 24) dX11_lookAt_24 (hR.th ht1) it_X11_285 (fun c24 => ?_) (fun c24 => ?_)
    · skip
      refine wp_if_eq (pc := 27) (tgt := 81) dX11_lookAt_27 (by decide) (fun z => absurd z (by decide)) (fun _ => ?_)
      refine wp_aload_n (pc := 30) dX11_lookAt_30 rfl rfl ?_
      refine wp_cast (pc := 31) dX11_lookAt_31 (hR.thW ht1 c24) ca_X11_285_10 ?_
      refine wp_astore (pc := 34) (lv' := [_, _, _, _, _, _]) dX11_lookAt_34 (Nat.le_of_ble_eq_true rfl) rfl rfl ?_
      refine wp_aload (pc := 36) dX11_lookAt_36 rfl ?_
      refine wp_lload_n (pc := 38) dX11_lookAt_38 rfl rfl ?_
      refine wc_VN (pc := 39) (μ2 := mX9_dropLateFirst) (rc := 2) (rs := 610) [_] dX11_lookAt_39 rfl (hR.thW ht1 c24) rfl cv_X11_428_10 rfl ⟨(Nat.le_of_ble_eq_true rfl), (Nat.le_of_ble_eq_true rfl)⟩ (Nat.le_of_ble_eq_true rfl) (c_dropLateFirst l G c hR ht1 c24 hTI1) (fun h q => ?_)
      have hR := q
      obtain ⟨M3, hM3⟩ : ∃ M3, M3 = lkQ M1 t c := ⟨_, rfl⟩
      rw [← hM3] at hR
      have s1 : M3.1 = M1.1 := by rw [hM3]; exact lkQ_1 M1 t c
      have s2 := (lkQ_2 M1 t c).2
      rw [← hM3] at s2
      have hTI3 : thI M3 t := by rw [hM3]; exact lkQ_I c hTI1 c24
      have ht3 : t < nx (M3.1 11) := by rw [s1]; exact ht1
      have hk3 : M3.2.1 12 t = 4 := by rw [s2 12 (by decide) (by decide) (by decide)]; exact c24
      have hT3 : tidy M3 := tidy_3 hT1 (by rw [s1]) (by rw [s1]) (s2 21 (by decide) (by decide) (by decide)) (s2 54 (by decide) (by decide) (by decide)) (s2 55 (by decide) (by decide) (by decide))
      refine wp_aload (pc := 42) dX11_lookAt_42 rfl ?_
      refine wc_VP (pc := 44) (μ2 := mX9_isFirstDue) (rc := 2) (rs := 610) [] dX11_lookAt_44 rfl (hR.thW ht3 hk3) rfl cv_X11_431_10 rfl ⟨(Nat.le_of_ble_eq_true rfl), (Nat.le_of_ble_eq_true rfl)⟩ (Nat.le_of_ble_eq_true rfl) (c_isFirstDue l G hR ht3 hk3 hTI3) ?_
      refine wp_ifB_eq (pc := 47) (tgt := 81) dX11_lookAt_47 (by decide) (fun c47 => ?_) (fun c47 => ?_)
      · have hc3 : lkC (lkQ M1 t c) t c = M3 := by
          rw [← hM3]
          unfold lkC
          by_cases d1 : M3.2.1 16 t ≤ 0
          · rw [if_pos d1]
          · rw [if_neg d1]
            by_cases d2 : M3.2.1 21 t = 0
            · rw [if_pos d2]
              by_cases d3 : M3.2.1 20 t = 0
              · exact absurd ⟨d1, d2, d3⟩ (of_decide_eq_false c47)
              · rw [if_neg d3]
            · rw [if_neg d2]
        exact wp_vret (pc := 81) dX11_lookAt_81 rfl ⟨rfl, A1, by rw [hlk, hr1, hc3]; exact hR, hE⟩
      · have d9 := of_decide_eq_true c47
        have hc3 : lkC (lkQ M1 t c) t c = sndM (sL (sI M3 20 t 1) 19 t (c + (lng M3 t).toInt64)) (nx (M.1 35)) 6 (M3.2.1 17 (8 * t)) (M.1 27) (nI t) := by
          rw [← hM3]
          unfold lkC
          rw [if_neg d9.1, if_pos d9.2.1, if_pos d9.2.2]
          show sndM _ (nx (M3.1 35)) 6 _ (M3.1 27) (nI t) = _
          rw [s1, l1.1]
          rfl
        have hq3 : 0 < nx (M3.2.1 16 t) := by
          rcases Nat.eq_zero_or_pos (nx (M3.2.1 16 t)) with z | z
          · exact absurd (by rw [hTI3.2.2.1, z]; decide) d9.1
          · exact z
        refine wp_aload (pc := 50) dX11_lookAt_50 rfl ?_
        refine wp_lload_n (pc := 52) dX11_lookAt_52 rfl rfl ?_
        refine wc_VN (pc := 53) (μ2 := mX9_callFirst) (rc := 2) (rs := 610) [_] dX11_lookAt_53 rfl (hR.thW ht3 hk3) rfl cv_X11_402_10 rfl ⟨(Nat.le_of_ble_eq_true rfl), (Nat.le_of_ble_eq_true rfl)⟩ (Nat.le_of_ble_eq_true rfl) (c_callFirst l G hR ht3 hk3 c) (fun h q => ?_)
        have hR := q
        obtain ⟨M4, hM4⟩ : ∃ M4, M4 = sL (sI M3 20 t 1) 19 t (c + (lng M3 t).toInt64) := ⟨_, rfl⟩
        rw [← hM4] at hR hc3
        have s4 : M4.1 = M.1 := by rw [hM4]; exact s1.trans l1.1
        have s5 : ∀ k, k ≠ 20 → M4.2.1 k = M3.2.1 k := fun k hk => by rw [hM4, sL_1, sI_k _ _ _ hk]
        have hTI4 : thI M4 t := by
          obtain ⟨g1, g2, q1, q2, q3, q4, q5, q6⟩ := hTI3
          unfold thI
          rw [s5 21 (by decide), s5 16 (by decide), s5 12 (by decide), s5 15 (by decide), s5 14 (by decide)]
          exact ⟨g1, g2, q1, q2, fun _ => hq3, fun z => absurd hk3 z, q5, q6⟩
        have ht4 : t < nx (M4.1 11) := by rw [s4]; exact ht
        have hk4 : M4.2.1 12 t = 4 := by rw [s5 12 (by decide)]; exact hk3
        have hT4 : tidy M4 := tidy_3 hT3 (by rw [s4, s1, l1.1]) (by rw [s4, s1, l1.1]) (s5 21 (by decide)) (s5 54 (by decide)) (s5 55 (by decide))
        have hgr : grw M M4 := grw.of s4 (fun i => by rw [s5 12 (by decide), s2 12 (by decide) (by decide) (by decide)]; exact l1.2.1 12 i (by decide) (Or.inl (by decide))) (fun i => by rw [s5 54 (by decide), s2 54 (by decide) (by decide) (by decide)]; exact l1.2.1 54 i (by decide) (Or.inl (by decide)))
        refine wp_aload_n (pc := 56) dX11_lookAt_56 rfl rfl ?_
        refine wp_newC (pc := 57) (rc := 1) (rs := 600) (ci := 3) (fs := [.int 0, .int 0, .int 0, .int 0, .int 0, .int 0, .long 0, .int 0, .long 0, .int 0]) dX11_lookAt_57 nw_X11_169 rfl nd_3 (fun e h en ec ef => ?_)
        have hpn := hR.hpn en
        have ene := hR.ngE en
        have hg := hR.2.2.2.1
        have hR := hR.fresh en ec ef
        refine wp_dup (pc := 60) dX11_lookAt_60 rfl ?_
        refine wp_bipush (pc := 61) (v := 6) dX11_lookAt_61 (by decide) ?_
        refine wp_aload (pc := 63) dX11_lookAt_63 rfl ?_
        refine wp_iconst (pc := 65) (v := 0) dX11_lookAt_65 (by decide) ?_
        refine wc_VP (pc := 66) (μ2 := mX9_queuedAt) (rc := 1) (rs := 600) [_] dX11_lookAt_66 rfl (hR.thW ht4 hk4) rfl cv_X11_297_10 rfl ⟨(Nat.le_of_ble_eq_true rfl), (Nat.le_of_ble_eq_true rfl)⟩ (Nat.le_of_ble_eq_true rfl) (c_queuedAt l G hR ht4 hk4 hTI4 _) ?_
        rw [show (if isIx 0 (nx (M4.2.1 16 t)) = true then M4.2.1 17 (8 * t + nx 0) else -1) = M3.2.1 17 (8 * t) by rw [s5 16 (by decide), if_pos (show isIx 0 _ = true from isIx_nI (j := 0) hq3 (by have := hTI3.2.2.2.1; omega)), s5 17 (by decide)]; rfl]
        refine wp_aload_n (pc := 69) dX11_lookAt_69 rfl rfl ?_
        refine wp_get (pc := 70) dX11_lookAt_70 fl_X11_46_12 hR.bd rfl ?_
        refine wp_iload_n (pc := 73) dX11_lookAt_73 rfl rfl ?_
        refine wc_IN (pc := 74) (μ2 := mX2_init) (rc := 1) (rs := 600) [_, _, _, _] dX11_lookAt_74 rfl cc_X11_171 rfl ⟨(Nat.le_of_ble_eq_true rfl), (Nat.le_of_ble_eq_true rfl)⟩ (Nat.le_of_ble_eq_true rfl) (c_i2 l G _ (hR.pr (up_s ..))) (fun h q => ?_)
        obtain ⟨ec, ef⟩ := q
        have hR := hR.upf ene ec ef
        refine wc_VV (pc := 77) (μ2 := mX11_send) (rc := 0) (rs := 0) [_] dX11_lookAt_77 rfl hR.bd rfl cv_X11_200_12 rfl ⟨(Nat.le_of_ble_eq_true rfl), (Nat.le_of_ble_eq_true rfl)⟩ (Nat.le_of_ble_eq_true rfl) (c_send (hp := hp) (M' := sndM M4 (nx (M.1 35)) 6 (M3.2.1 17 (8 * t)) (M.1 27) (nI t)) l G hR hT4 (by rw [s4]; exact hL) hL4 (by have z := snd_snt (M := M4) (a := 6) (b := M3.2.1 17 (8 * t)) (c := M.1 27) (d := nI t) (by rw [s4]; exact hL) (by rw [s4]; exact hL4); rw [s4] at z; exact z) (by rw [up_s]; simp [cLt, sndM, sI, sL, sS, fu, s4]) (hhp_u hpn) hg) (fun r h q => ?_)
        obtain ⟨rfl, A9, hR, hE9, -⟩ := q
        refine wp_pop (pc := 80) dX11_lookAt_80 rfl ?_
        exact wp_vret (pc := 81) dX11_lookAt_81 rfl ⟨rfl, A9, by rw [hlk, hr1, hc3]; exact hR, ext.tr (M1 := M4) (fun k i a b v => hE k i a b v) hE9 hgr⟩
    · skip
      refine wp_if_eq (pc := 27) (tgt := 81) dX11_lookAt_27 (by decide) (fun _ => ?_) (fun z => absurd (by decide) z)
      exact wp_vret (pc := 81) dX11_lookAt_81 rfl ⟨rfl, A1, by rw [hlk, hr1, lk_no c (hTI1.2.2.2.2.2.1 c24).2 (hTI1.2.2.2.2.2.1 c24).1]; exact hR, hE⟩
end K22
