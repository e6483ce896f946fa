/-! ===== the class: ASK is heard ===== -/
theorem ga1_c (M : MS) {t g : Nat} (w m p : Int32) : (∀ i, i ≠ t → (sL (sL (gaD M t g w m p) 25 (20 * t + g) 0) 26 (20 * t + g) 0).2.1 21 i = M.2.1 21 i) ∧ (∀ f i, f ≠ 21 → f ∉ [22, 23, 24] ∨ i ≠ 20 * t + g → (sL (sL (gaD M t g w m p) 25 (20 * t + g) 0) 26 (20 * t + g) 0).2.1 f i = M.2.1 f i) ∧ ∀ f i, f ∉ [25, 26] ∨ i ≠ 20 * t + g → (sL (sL (gaD M t g w m p) 25 (20 * t + g) 0) 26 (20 * t + g) 0).2.2 f i = M.2.2 f i := by
  refine ⟨fun i hi => ?_, fun f i h1 h2 => ?_, fun f i h2 => ?_⟩
  · show (sI M 21 t _).2.1 21 i = _; exact sI_n _ _ _ _ hi
  · have hn : ∀ q, q ∈ ([22, 23, 24] : List Nat) → ¬ (f = q ∧ i = 20 * t + g) := fun q hq z => h2.elim (fun y => y (z.1 ▸ hq)) (fun y => y z.2)
    simp only [sL_1, gaD, sI_at, hn 22 (by decide), hn 23 (by decide), hn 24 (by decide), eq_false h1, false_and, if_false]
  · have hn : ∀ q, q ∈ ([25, 26] : List Nat) → ¬ (f = q ∧ i = 20 * t + g) := fun q hq z => h2.elim (fun y => y (z.1 ▸ hq)) (fun y => y z.2)
    simp only [sL_at, gaD, sI_2, hn 25 (by decide), hn 26 (by decide), if_false]
theorem ga1_21 (M : MS) {t g : Nat} (w m p : Int32) (hg : M.2.1 21 t = nI g) : (gaD M t g w m p).2.1 21 t = nI (g + 1) := by
  show (sI M 21 t (M.2.1 21 t + 1)).2.1 21 t = _
  rw [sI_at, if_pos ⟨rfl, rfl⟩, hg, nI_1]
theorem ga1_sT (M : MS) {t g : Nat} (w m p : Int32) (hg : g < 20) : sameT (sL (sL (gaD M t g w m p) 25 (20 * t + g) 0) 26 (20 * t + g) 0) M t := by
  obtain ⟨a, b, c⟩ := ga1_c M (t := t) (g := g) w m p
  exact ⟨rfl, fun f i h1 h2 => b f i h1 (h2.imp id (fun z e => z (by omega))), a, fun f i h => c f i (h.imp id (fun z e => z (by omega)))⟩
theorem fts_4 {M : MS} {t : Nat} {w m p : Int32} (h : fts M t w m p = true) (h4 : M.2.1 12 t = 4) : M.2.1 16 t = 0 ∨ M.2.1 17 (8 * t) = w := by
  unfold fts at h
  simp only [h4, kne.2.2.2.1, kne.2.2.2.2.1, kne.2.2.2.2.2, if_true, if_false] at h
  split at h
  · split at h
    · rename_i z; exact Or.inl z
    · split at h
      · rename_i z; exact Or.inr z
      · cases h
  · cases h
theorem askQ_n {M : MS} {j t : Nat} (h : M.2.1 16 t = 0) : askQ M j t = M := by unfold askQ qat; rw [h]; rfl
theorem askQ_0 {M : MS} {j t : Nat} (h : 0 < nx (M.2.1 16 t)) (h2 : M.2.1 17 (8 * t) = M.2.1 37 j) : askQ M j t = unqM M t 0 (nx (M.2.1 16 t)) := by
  unfold askQ qat
  rw [find_range (i := 0) h (fun q hq => absurd hq (by omega)) (decide_eq_true (by rw [Nat.add_zero]; exact h2))]
section K26
variable (l : Launch) (G : WG) {hp h : Hp} {A : AD} {M : MS}
theorem c_grantAsAsked {j t : Nat} (hR : RH G hp A M h) (hT : tidy M) (hL : M.1 35 = nI (nx (M.1 35))) (hL4 : nx (M.1 35) < 400) (hj : j < nx (M.1 35)) (ht : t < nx (M.1 11)) (hTI : thI M t) (hg20 : nx (M.2.1 21 t) < 20) (hw0 : ¬ M.2.1 37 j = -1) (hF : fts M t (M.2.1 37 j) (M.2.1 40 j) (M.2.1 41 j) = true) : SpN l G mX11_grantAsAsked [.ref (A.1 0 0), .ref (A.1 9 j), .ref (A.1 7 t), .long (kClk M (nx (M.1 27)))] h (fun h' => ∃ A', RH G hp A' (askG (askQ M j t) j t) h' ∧ ext A M A') := by
  refine Sp.intro (lv := [_, _, _, _, _, _, _]) (by decide) rfl (Nat.le_of_ble_eq_true rfl) ?_
  refine wp_widen (rc' := 4) (rs' := 1215) (Nat.le_refl _) (Nat.le_refl _) ?_
  obtain ⟨g, hgd⟩ : ∃ g, g = nx (M.2.1 21 t) := ⟨_, rfl⟩
  have hg : M.2.1 21 t = nI g := by rw [hgd]; exact hTI.1
  have hgl : g < 20 := by rw [hgd]; exact hg20
  refine wp_newC (pc := 0) (rc := 3) (rs := 1210) (ci := 2) (fs := [.int 0, .int 0, .int 0, .long 0, .long 0]) dX11_grantAsAsked_0 nw_X11_262 rfl nd_2 (fun e h en ec ef => ?_)
  have hpn := hR.hpn en
  have ene := hR.ngE en
  have hg0 := hR.2.2.2.1
  have hR := hR.fresh en ec ef
  refine wp_dup (pc := 3) dX11_grantAsAsked_3 rfl ?_
  refine wp_aload_n (pc := 4) dX11_grantAsAsked_4 rfl rfl ?_
  refine wp_get (pc := 5) dX11_grantAsAsked_5 fl_X11_224_3 (hR.lt hj) rfl ?_
  refine wp_aload_n (pc := 8) dX11_grantAsAsked_8 rfl rfl ?_
  refine wp_get (pc := 9) dX11_grantAsAsked_9 fl_X11_233_3 (hR.lt hj) rfl ?_
  refine wp_aload_n (pc := 12) dX11_grantAsAsked_12 rfl rfl ?_
  refine wp_get (pc := 13) dX11_grantAsAsked_13 fl_X11_234_3 (hR.lt hj) rfl ?_
  refine wc_IN (pc := 16) (μ2 := mX1_init) (rc := 3) (rs := 1210) [_, _, _] dX11_grantAsAsked_16 rfl cc_X11_451 rfl ⟨(Nat.le_of_ble_eq_true rfl), (Nat.le_of_ble_eq_true rfl)⟩ (Nat.le_of_ble_eq_true rfl) (c_i1 l G _ (hR.pr (up_s ..))) (fun h q => ?_)
  obtain ⟨ec, ef⟩ := q
  have hR := hR.upf ene ec ef
  refine wp_astore (pc := 19) (lv' := [_, _, _, _, _, _, _]) dX11_grantAsAsked_19 (Nat.le_of_ble_eq_true rfl) rfl rfl ?_
  refine wp_aload_n (pc := 21) dX11_grantAsAsked_21 rfl rfl ?_
  refine wp_getT (pc := 22) dX11_grantAsAsked_22 ft_X11_254 (hR.th ht) rfl ?_
  refine wp_aload (pc := 25) dX11_grantAsAsked_25 rfl ?_
  refine wc_VV (pc := 27) (μ2 := mJx4a65c_add_9ea2d) (rc := 2) (rs := 610) [_] dX11_grantAsAsked_27 rfl (hR.lst (ll := t + 4) (by omega)) rfl cv_X11_96_0 rfl ⟨(Nat.le_of_ble_eq_true rfl), (Nat.le_of_ble_eq_true rfl)⟩ (Nat.le_of_ble_eq_true rfl) (j_add l G _ (hR.lst (ll := t + 4) (by omega)) (hR.dat (by omega)) (fun z => if_pos z) (hR.cap (by omega)).1 (show len M (t + 4) < 400 from by show nx (M.2.1 21 t) < 400; omega) (hR.cap (by omega)).2 ec cO_2 (fun i hi => hR.vElt hT (by omega) hi)) (fun r h q => ?_)
  obtain ⟨rfl, b9, n9, h9⟩ := q
  have hc1 := ga1_c M (t := t) (g := g) (M.2.1 37 j) (M.2.1 40 j) (M.2.1 41 j)
  obtain ⟨A9, hR9, hE, e8, -⟩ := RH.addG (hp := hp) (M' := sL (sL (gaD M t g (M.2.1 37 j) (M.2.1 40 j) (M.2.1 41 j)) 25 (20 * t + g) 0) 26 (20 * t + g) 0) hR hT ht hg hgl rfl (ga1_21 M (M.2.1 37 j) (M.2.1 40 j) (M.2.1 41 j) hg) hc1.1 hc1.2.1 hc1.2.2 (by rw [up_s]; simp [cGr, gaD, sI, sL, fu]) h9 (hhp_u hpn) hg0
  subst e8
  have hR := hR9
  have e0 : A9.1 0 0 = A.1 0 0 := hE 0 0 (by decide) (by decide) (vl_0.mpr rfl)
  have e7 : A9.1 7 t = A.1 7 t := hE 7 t (by decide) (by decide) (vl_7.mpr ht)
  have e9 : A9.1 9 j = A.1 9 j := hE 9 j (by decide) (by decide) (vl_9.mpr hj)
  rw [← e0, ← e7, ← e9]
  have hsT := ga1_sT M (t := t) (M.2.1 37 j) (M.2.1 40 j) (M.2.1 41 j) hgl
  have ha1 : g < nx ((sL (sL (gaD M t g (M.2.1 37 j) (M.2.1 40 j) (M.2.1 41 j)) 25 (20 * t + g) 0) 26 (20 * t + g) 0).2.1 21 t) := by
    have z := ga1_21 M (M.2.1 37 j) (M.2.1 40 j) (M.2.1 41 j) hg
    show g < nx ((gaD M t g (M.2.1 37 j) (M.2.1 40 j) (M.2.1 41 j)).2.1 21 t)
    rw [z, nx_nI (by omega)]; omega
  have hT1 : tidy (sL (sL (gaD M t g (M.2.1 37 j) (M.2.1 40 j) (M.2.1 41 j)) 25 (20 * t + g) 0) 26 (20 * t + g) 0) := tidy_sT hsT hT (ga1_21 M (M.2.1 37 j) (M.2.1 40 j) (M.2.1 41 j) hg) (by omega)
  refine wp_pop (pc := 30) dX11_grantAsAsked_30 rfl ?_
  refine wp_aload_n (pc := 31) dX11_grantAsAsked_31 rfl rfl ?_
  refine wp_aload_n (pc := 32) dX11_grantAsAsked_32 rfl rfl ?_
  refine wp_aload (pc := 33) dX11_grantAsAsked_33 rfl ?_
  refine wp_lload_n (pc := 35) dX11_grantAsAsked_35 rfl rfl ?_
  refine wc_VN (pc := 36) (μ2 := mX11_giveNumber) (rc := 2) (rs := 610) [_, _, _] dX11_grantAsAsked_36 rfl hR.bd rfl cv_X11_452_12 rfl ⟨(Nat.le_of_ble_eq_true rfl), (Nat.le_of_ble_eq_true rfl)⟩ (Nat.le_of_ble_eq_true rfl) (c_giveNumber (M := sL (sL (gaD M t g (M.2.1 37 j) (M.2.1 40 j) (M.2.1 41 j)) 25 (20 * t + g) 0) 26 (20 * t + g) 0) (a := g) l G hR hT1 ht ha1) (fun h q => ?_)
  have hR := q
  rw [ga_eq] at hR
  obtain ⟨M5, hM5⟩ : ∃ M5, M5 = gaF M t g (M.2.1 37 j) (M.2.1 40 j) (M.2.1 41 j) := ⟨_, rfl⟩
  rw [← hM5] at hR
  have s1 : ∀ k, k ≠ 49 → M5.1 k = M.1 k := fun k hk => by rw [hM5, gaF_1]; exact fu_n _ _ hk
  have s2 : ∀ k, (k ≠ 21 ∧ k ≠ 22 ∧ k ≠ 23 ∧ k ≠ 24) → M5.2.1 k = M.2.1 k := fun k hk => by rw [hM5, gaF_2]; exact gaD_k _ _ _ _ _ _ hk
  have h21 : M5.2.1 21 t = nI (g + 1) := by rw [hM5, gaF_2]; exact ga1_21 M (M.2.1 37 j) (M.2.1 40 j) (M.2.1 41 j) hg
  have ha5 : g < nx (M5.2.1 21 t) := by rw [h21, nx_nI (by omega)]; omega
  have ht5 : t < nx (M5.1 11) := by rw [s1 11 (by decide)]; exact ht
  have hj5 : j < nx (M5.1 35) := by rw [s1 35 (by decide)]; exact hj
  have hTI5 : thI M5 t := thI_of hTI h21 (by omega) (by rw [s2 16 (by decide)]) (by rw [s2 20 (by decide)]) (by rw [s2 12 (by decide)]) (by rw [s2 15 (by decide)]) (by rw [s2 14 (by decide)])
  have hT5 : tidy M5 := by
    refine ⟨fun t' ht' => ?_, fun y hy => ?_⟩
    · rw [s1 11 (by decide)] at ht'
      have z := hT1.1 t' ht'
      rw [hM5, gaF_2]; exact z
    · rw [s1 11 (by decide), s1 35 (by decide), s2 54 (by decide), s2 55 (by decide)]; exact hT.2 y hy
  have hgr : grw M M5 := ⟨by rw [s1 2 (by decide)]; exact Nat.le_refl _, by rw [s1 6 (by decide)]; exact Nat.le_refl _, by rw [s1 11 (by decide)]; exact Nat.le_refl _, by rw [s1 35 (by decide)]; exact Nat.le_refl _, fun i => by rw [s2 12 (by decide)], fun i => by rw [s2 54 (by decide)]⟩
  refine wp_aload_n (pc := 39) dX11_grantAsAsked_39 rfl rfl ?_
  refine wp_instT 4 (pc := 40) dX11_grantAsAsked_40 (hR.th ht5) it_X11_285 (fun c40 => ?_) (fun c40 => ?_)
  · skip
    refine wp_if_eq (pc := 43) (tgt := 70) dX11_grantAsAsked_43 (by decide) (fun z => absurd z (by decide)) (fun _ => ?_)
    refine wp_aload_n (pc := 46) dX11_grantAsAsked_46 rfl rfl ?_
    refine wp_cast (pc := 47) dX11_grantAsAsked_47 (hR.thW ht5 c40) ca_X11_285_10 ?_
    refine wp_astore (pc := 50) (lv' := [_, _, _, _, _, _, _]) dX11_grantAsAsked_50 (Nat.le_of_ble_eq_true rfl) rfl rfl ?_
    refine wp_aload (pc := 52) dX11_grantAsAsked_52 rfl ?_
    refine wp_iconst (pc := 54) (v := 0) dX11_grantAsAsked_54 (by decide) ?_
    refine wc_VP (pc := 55) (μ2 := mX9_queuedAt) (rc := 2) (rs := 610) [_] dX11_grantAsAsked_55 rfl (hR.thW ht5 c40) rfl cv_X11_297_10 rfl ⟨(Nat.le_of_ble_eq_true rfl), (Nat.le_of_ble_eq_true rfl)⟩ (Nat.le_of_ble_eq_true rfl) (c_queuedAt l G hR ht5 c40 hTI5 _) ?_
    refine wp_aload_n (pc := 58) dX11_grantAsAsked_58 rfl rfl ?_
    refine wp_get (pc := 59) dX11_grantAsAsked_59 fl_X11_224_3 (hR.lt hj5) rfl ?_
    refine wp_icmp_ne (pc := 62) (tgt := 70) dX11_grantAsAsked_62 (by decide) (fun c62 => ?_) (fun c62 => ?_)
    · have h16 : M.2.1 16 t = 0 := by
        rcases fts_4 hF (by rw [← s2 12 (by decide)]; exact c40) with z | z
        · exact z
        · rcases Nat.eq_zero_or_pos (nx (M.2.1 16 t)) with y | y
          · rw [hTI.2.2.1, y]; rfl
          · refine absurd ?_ c62
            rw [s2 16 (by decide), if_pos (show isIx 0 _ = true from isIx_nI (j := 0) y (by have := hTI.2.2.2.1; omega)), s2 17 (by decide), s2 37 (by decide)]
            exact z
      refine wp_aload_n (pc := 70) dX11_grantAsAsked_70 rfl rfl ?_
      refine wp_aload_n (pc := 71) dX11_grantAsAsked_71 rfl rfl ?_
      refine wp_aload (pc := 72) dX11_grantAsAsked_72 rfl ?_
      refine wc_VN (pc := 74) (μ2 := mX11_answerGrant) (rc := 0) (rs := 0) [_, _] dX11_grantAsAsked_74 rfl hR.bd rfl cv_X11_459_12 rfl ⟨(Nat.le_of_ble_eq_true rfl), (Nat.le_of_ble_eq_true rfl)⟩ (Nat.le_of_ble_eq_true rfl) (c_answerGrant (M := M5) (a := g) l G hR hT5 (by rw [s1 35 (by decide)]; exact hL) (by rw [s1 35 (by decide)]; exact hL4) hj5 ht5 ha5) (fun h q => ?_)
      obtain ⟨A8, hR, hE8⟩ := q
      exact wp_vret (pc := 77) dX11_grantAsAsked_77 rfl ⟨rfl, A8, by rw [askQ_n h16, askG_eq, ← hgd, ← hM5]; exact hR, hE.tr hE8 hgr⟩
    · have hix : isIx 0 (nx (M5.2.1 16 t)) = true := Decidable.byContradiction (fun z => by rw [if_neg z, s2 37 (by decide)] at c62; exact hw0 c62.symm)
      have hq5 : 0 < nx (M5.2.1 16 t) := by
        obtain ⟨k, hk, -⟩ := isIx_t hix (by have := hTI5.2.2.2.1; omega)
        omega
      have d62 : M5.2.1 17 (8 * t) = M.2.1 37 j := by
        rw [if_pos hix, s2 37 (by decide)] at c62
        exact c62
      refine wp_aload (pc := 65) dX11_grantAsAsked_65 rfl ?_
      refine wc_VN (pc := 67) (μ2 := mX9_dropFirst) (rc := 2) (rs := 610) [] dX11_grantAsAsked_67 rfl (hR.thW ht5 c40) rfl cv_X11_456_10 rfl ⟨(Nat.le_of_ble_eq_true rfl), (Nat.le_of_ble_eq_true rfl)⟩ (Nat.le_of_ble_eq_true rfl) (c_dropFirst l G hR ht5 c40 hTI5 hq5) (fun h q => ?_)
      have hR := q
      have hF6 := unqM_same M5 t 0 (nx (M5.2.1 16 t))
      have hS6 : askG (askQ M j t) j t = grsM (unqM M5 t 0 (nx (M5.2.1 16 t))) j t g := by
        have z := unqM_same M t 0 (nx (M.2.1 16 t))
        rw [askQ_0 (by rw [← s2 16 (by decide)]; exact hq5) (by rw [← s2 17 (by decide)]; exact d62), askG_eq, z.2.2 21 (by decide) (by decide) (by decide), z.2.2 37 (by decide) (by decide) (by decide), z.2.2 40 (by decide) (by decide) (by decide), z.2.2 41 (by decide) (by decide) (by decide), ← hgd, ← ga_unq, ← hM5, s2 16 (by decide)]
      refine wp_aload_n (pc := 70) dX11_grantAsAsked_70 rfl rfl ?_
      refine wp_aload_n (pc := 71) dX11_grantAsAsked_71 rfl rfl ?_
      refine wp_aload (pc := 72) dX11_grantAsAsked_72 rfl ?_
      refine wc_VN (pc := 74) (μ2 := mX11_answerGrant) (rc := 0) (rs := 0) [_, _] dX11_grantAsAsked_74 rfl hR.bd rfl cv_X11_459_12 rfl ⟨(Nat.le_of_ble_eq_true rfl), (Nat.le_of_ble_eq_true rfl)⟩ (Nat.le_of_ble_eq_true rfl) (c_answerGrant (M := unqM M5 t 0 (nx (M5.2.1 16 t))) (a := g) l G hR (tidy_3 hT5 (by rw [hF6.1]) (by rw [hF6.1]) (hF6.2.2 21 (by decide) (by decide) (by decide)) (hF6.2.2 54 (by decide) (by decide) (by decide)) (hF6.2.2 55 (by decide) (by decide) (by decide))) (by rw [hF6.1, s1 35 (by decide)]; exact hL) (by rw [hF6.1, s1 35 (by decide)]; exact hL4) (by rw [hF6.1]; exact hj5) (by rw [hF6.1]; exact ht5) (by rw [hF6.2.2 21 (by decide) (by decide) (by decide)]; exact ha5)) (fun h q => ?_)
      obtain ⟨A8, hR, hE8⟩ := q
      exact wp_vret (pc := 77) dX11_grantAsAsked_77 rfl ⟨rfl, A8, by rw [hS6]; exact hR, hE.tr (ext.tr (M1 := unqM M5 t 0 (nx (M5.2.1 16 t))) (ext.refl A9 M5) hE8 (grw.of hF6.1 (fun i => by rw [hF6.2.2 12 (by decide) (by decide) (by decide)]) (fun i => by rw [hF6.2.2 54 (by decide) (by decide) (by decide)]))) hgr⟩
  · have h16 : M.2.1 16 t = 0 := (hTI.2.2.2.2.2.1 (by rw [← s2 12 (by decide)]; exact c40)).1
    refine wp_if_eq (pc := 43) (tgt := 70) dX11_grantAsAsked_43 (by decide) (fun _ => ?_) (fun z => absurd (by decide) z)
    refine wp_aload_n (pc := 70) dX11_grantAsAsked_70 rfl rfl ?_
    refine wp_aload_n (pc := 71) dX11_grantAsAsked_71 rfl rfl ?_
    refine wp_aload (pc := 72) dX11_grantAsAsked_72 rfl ?_
    refine wc_VN (pc := 74) (μ2 := mX11_answerGrant) (rc := 0) (rs := 0) [_, _] dX11_grantAsAsked_74 rfl hR.bd rfl cv_X11_459_12 rfl ⟨(Nat.le_of_ble_eq_true rfl), (Nat.le_of_ble_eq_true rfl)⟩ (Nat.le_of_ble_eq_true rfl) (c_answerGrant (M := M5) (a := g) l G hR hT5 (by rw [s1 35 (by decide)]; exact hL) (by rw [s1 35 (by decide)]; exact hL4) hj5 ht5 ha5) (fun h q => ?_)
    obtain ⟨A8, hR, hE8⟩ := q
    exact wp_vret (pc := 77) dX11_grantAsAsked_77 rfl ⟨rfl, A8, by rw [askQ_n h16, askG_eq, ← hgd, ← hM5]; exact hR, hE.tr hE8 hgr⟩
theorem w_fits {Z : WZ} {lv : List (Option Value)} {st : List Value} {rc rs t : Nat} {w mode parts : Int32} (hR : RH G hp A M h) (hTI : thI M t) (hT : tidy M) (ht : t < nx (M.1 11)) (hst : (st.map fun v => v.category).sum ≤ 8) (kk : wp l G mX11_hearAsk Z 35 lv (.int (bi (fts M t w mode parts)) :: st) h rc rs) : wp l G mX11_hearAsk Z 32 lv (.int parts :: .int mode :: .int w :: .ref (A.1 7 t) :: st) h rc rs := by
  by_cases h1 : M.2.1 12 t = 1
  · obtain ⟨fs, hc⟩ := th_ci G hR ht (ci := 8) (by rw [h1]; rfl)
    exact wc_UP (pc := 32) (μ2 := mX7_fits) (rc := rc) (rs := rs) [_, _, _] dX11_hearAsk_32 rfl hc rfl cu_X11_441_8 rfl ⟨(Nat.le_of_ble_eq_true rfl), (Nat.le_of_ble_eq_true rfl)⟩ hst (c_fits_8 l G hR hTI hT ht h1) kk
  · by_cases h2 : M.2.1 12 t = 2
    · obtain ⟨fs, hc⟩ := th_ci G hR ht (ci := 1) (by rw [h2]; rfl)
      exact wc_UP (pc := 32) (μ2 := mX0_fits) (rc := rc) (rs := rs) [_, _, _] dX11_hearAsk_32 rfl hc rfl cu_X11_441_1 rfl ⟨(Nat.le_of_ble_eq_true rfl), (Nat.le_of_ble_eq_true rfl)⟩ hst (c_fits_1 l G hR hTI hT ht h2) kk
    · by_cases h3 : M.2.1 12 t = 3
      · obtain ⟨fs, hc⟩ := th_ci G hR ht (ci := 7) (by rw [h3]; rfl)
        exact wc_UP (pc := 32) (μ2 := mX6_fits) (rc := rc) (rs := rs) [_, _, _] dX11_hearAsk_32 rfl hc rfl cu_X11_441_7 rfl ⟨(Nat.le_of_ble_eq_true rfl), (Nat.le_of_ble_eq_true rfl)⟩ hst (c_fits_7 l G hR hTI hT ht h3) kk
      · by_cases h4 : M.2.1 12 t = 4
        · obtain ⟨fs, hc⟩ := th_ci G hR ht (ci := 10) (by rw [h4]; rfl)
          exact wc_UP (pc := 32) (μ2 := mX9_fits) (rc := rc) (rs := rs) [_, _, _] dX11_hearAsk_32 rfl hc rfl cu_X11_441_10 rfl ⟨(Nat.le_of_ble_eq_true rfl), (Nat.le_of_ble_eq_true rfl)⟩ hst (c_fits_10 l G hR hTI hT ht h4) kk
        · obtain ⟨fs, hc⟩ := th_ci G hR ht (ci := 5) (by unfold tci; rw [if_neg h1, if_neg h2, if_neg h3, if_neg h4])
          exact wc_VP (pc := 32) (μ2 := mX4_fits) (rc := rc) (rs := rs) [_, _, _] dX11_hearAsk_32 rfl hc rfl cv_X11_441_5 rfl ⟨(Nat.le_of_ble_eq_true rfl), (Nat.le_of_ble_eq_true rfl)⟩ hst (c_fits_5 l G hR hTI ht h1 h2 h3 h4) kk
theorem c_hearAsk {j t : Nat} (hR : RH G hp A M h) (hT : tidy M) (hL : M.1 35 = nI (nx (M.1 35))) (hL4 : nx (M.1 35) < 400) (hj : j < nx (M.1 35)) (ht : t < nx (M.1 11)) (hTI : thI M t) (hgn : gof M t (M.2.1 37 j) (nx (M.2.1 21 t)) = none → nx (M.2.1 21 t) < 20) (hw0 : ¬ M.2.1 37 j = -1) : SpN l G mX11_hearAsk [.ref (A.1 0 0), .ref (A.1 9 j), .ref (A.1 7 t), .long (kClk M (nx (M.1 27)))] h (fun h' => ∃ A', RH G hp A' (askM M j t) h' ∧ ext A M A') := by
  refine Sp.intro (lv := [_, _, _, _, _, _]) (by decide) rfl (Nat.le_of_ble_eq_true rfl) ?_
  refine wp_widen (rc' := 4) (rs' := 1215) (Nat.le_refl _) (Nat.le_refl _) ?_
  refine wp_aload_n (pc := 0) dX11_hearAsk_0 rfl rfl ?_
  refine wp_aload_n (pc := 1) dX11_hearAsk_1 rfl rfl ?_
  refine wp_get (pc := 2) dX11_hearAsk_2 fl_X11_224_3 (hR.lt hj) rfl ?_
  refine wc_TP (pc := 5) (μ2 := mX4_grantOf) (rc := 4) (rs := 1215) [_] dX11_hearAsk_5 rfl (hR.th ht) ct_X11_434 rfl ⟨(Nat.le_of_ble_eq_true rfl), (Nat.le_of_ble_eq_true rfl)⟩ (Nat.le_of_ble_eq_true rfl) (c_grantOf l G _ hR hT ht) ?_
  refine wp_ifnull (pc := 8) (tgt := 19) dX11_hearAsk_8 (by decide) (fun c8 => ?_) (fun a8 c8 => ?_)
  · have g0 := gGr_n c8
    refine wp_aload_n (pc := 19) dX11_hearAsk_19 rfl rfl ?_
    refine wp_aload_n (pc := 20) dX11_hearAsk_20 rfl rfl ?_
    refine wp_get (pc := 21) dX11_hearAsk_21 fl_X11_224_3 (hR.lt hj) rfl ?_
    refine wp_aload_n (pc := 24) dX11_hearAsk_24 rfl rfl ?_
    refine wp_get (pc := 25) dX11_hearAsk_25 fl_X11_233_3 (hR.lt hj) rfl ?_
    refine wp_aload_n (pc := 28) dX11_hearAsk_28 rfl rfl ?_
    refine wp_get (pc := 29) dX11_hearAsk_29 fl_X11_234_3 (hR.lt hj) rfl ?_
    refine w_fits l G hR hTI hT ht (Nat.le_of_ble_eq_true rfl) ?_
    refine wp_ifB_eq (pc := 35) (tgt := 48) dX11_hearAsk_35 (by decide) (fun c35 => ?_) (fun c35 => ?_)
    · skip
      refine wp_aload_n (pc := 48) dX11_hearAsk_48 rfl rfl ?_
      refine wp_instT 4 (pc := 49) dX11_hearAsk_49 (hR.th ht) it_X11_285 (fun c49 => ?_) (fun c49 => ?_)
      · skip
        refine wp_if_eq (pc := 52) (tgt := 71) dX11_hearAsk_52 (by decide) (fun z => absurd z (by decide)) (fun _ => ?_)
        refine wp_aload_n (pc := 55) dX11_hearAsk_55 rfl rfl ?_
        refine wp_cast (pc := 56) dX11_hearAsk_56 (hR.thW ht c49) ca_X11_285_10 ?_
        refine wp_astore (pc := 59) (lv' := [_, _, _, _, _, _]) dX11_hearAsk_59 (Nat.le_of_ble_eq_true rfl) rfl rfl ?_
        refine wp_aload_n (pc := 61) dX11_hearAsk_61 rfl rfl ?_
        refine wp_aload_n (pc := 62) dX11_hearAsk_62 rfl rfl ?_
        refine wp_aload (pc := 63) dX11_hearAsk_63 rfl ?_
        refine wc_VN (pc := 65) (μ2 := mX11_waitOrRefuse) (rc := 2) (rs := 605) [_, _] dX11_hearAsk_65 rfl hR.bd rfl cv_X11_447_12 rfl ⟨(Nat.le_of_ble_eq_true rfl), (Nat.le_of_ble_eq_true rfl)⟩ (Nat.le_of_ble_eq_true rfl) (c_waitOrRefuse l G hR hT hL hL4 hj ht c49 hTI) (fun h q => ?_)
        obtain ⟨A9, hR, hE⟩ := q
        refine wp_goto (pc := 68) (tgt := 76) dX11_hearAsk_68 (by decide) ?_
        exact wp_vret (pc := 76) dX11_hearAsk_76 rfl ⟨rfl, A9, by unfold askM; rw [if_neg (fun z => z g0), if_neg (by rw [c35]; decide), if_pos c49]; exact hR, hE⟩
      · skip
        refine wp_if_eq (pc := 52) (tgt := 71) dX11_hearAsk_52 (by decide) (fun _ => ?_) (fun z => absurd (by decide) z)
        refine wp_aload_n (pc := 71) dX11_hearAsk_71 rfl rfl ?_
        refine wp_aload_n (pc := 72) dX11_hearAsk_72 rfl rfl ?_
        refine wc_VN (pc := 73) (μ2 := mX11_answerRefusal) (rc := 2) (rs := 605) [_] dX11_hearAsk_73 rfl hR.bd rfl cv_X11_438_12 rfl ⟨(Nat.le_of_ble_eq_true rfl), (Nat.le_of_ble_eq_true rfl)⟩ (Nat.le_of_ble_eq_true rfl) (c_answerRefusal l G hR hT hL hL4 hj) (fun h q => ?_)
        obtain ⟨A9, hR, hE⟩ := q
        exact wp_vret (pc := 76) dX11_hearAsk_76 rfl ⟨rfl, A9, by unfold askM; rw [if_neg (fun z => z g0), if_neg (by rw [c35]; decide), if_neg c49]; exact hR, hE⟩
    · skip
      refine wp_aload_n (pc := 38) dX11_hearAsk_38 rfl rfl ?_
      refine wp_aload_n (pc := 39) dX11_hearAsk_39 rfl rfl ?_
      refine wp_aload_n (pc := 40) dX11_hearAsk_40 rfl rfl ?_
      refine wp_lload_n (pc := 41) dX11_hearAsk_41 rfl rfl ?_
      refine wc_VN (pc := 42) (μ2 := mX11_grantAsAsked) (rc := 0) (rs := 0) [_, _, _] dX11_hearAsk_42 rfl hR.bd rfl cv_X11_444_12 rfl ⟨(Nat.le_of_ble_eq_true rfl), (Nat.le_of_ble_eq_true rfl)⟩ (Nat.le_of_ble_eq_true rfl) (c_grantAsAsked l G hR hT hL hL4 hj ht hTI (hgn g0) hw0 c35) (fun h q => ?_)
      obtain ⟨A9, hR, hE⟩ := q
      refine wp_goto (pc := 45) (tgt := 76) dX11_hearAsk_45 (by decide) ?_
      exact wp_vret (pc := 76) dX11_hearAsk_76 rfl ⟨rfl, A9, by unfold askM; rw [if_neg (fun z => z g0), if_pos c35]; exact hR, hE⟩
  · obtain ⟨i, g9, -, -⟩ := gGr_s c8
    have g0 : gof M t (M.2.1 37 j) (nx (M.2.1 21 t)) ≠ none := by rw [g9]; exact fun z => by cases z
    refine wp_aload_n (pc := 11) dX11_hearAsk_11 rfl rfl ?_
    refine wp_aload_n (pc := 12) dX11_hearAsk_12 rfl rfl ?_
    refine wc_VN (pc := 13) (μ2 := mX11_answerRefusal) (rc := 2) (rs := 605) [_] dX11_hearAsk_13 rfl hR.bd rfl cv_X11_438_12 rfl ⟨(Nat.le_of_ble_eq_true rfl), (Nat.le_of_ble_eq_true rfl)⟩ (Nat.le_of_ble_eq_true rfl) (c_answerRefusal l G hR hT hL hL4 hj) (fun h q => ?_)
    obtain ⟨A9, hR, hE⟩ := q
    refine wp_goto (pc := 16) (tgt := 76) dX11_hearAsk_16 (by decide) ?_
    exact wp_vret (pc := 76) dX11_hearAsk_76 rfl ⟨rfl, A9, by unfold askM; rw [if_pos g0]; exact hR, hE⟩
end K26
