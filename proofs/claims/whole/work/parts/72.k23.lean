/-! ===== the class: answers ===== -/
theorem grs_snt {t a : Nat} {M : MS} {j : Nat} (hL : M.1 35 = nI (nx (M.1 35))) (hL4 : nx (M.1 35) < 400) : snt M (grsM M j t a) (nx (M.1 35)) := by
  have hc3 := cntS hL (by omega)
  refine ⟨fun f hf => ?_, ?_, fun f i hf => ?_, fun f i hf => ?_⟩
  · simp only [grsM, ansM, sndM, sS_at, sI_1, sL_0, if_neg hf, if_true, if_false, (by decide : ((4 : Int32) = 7) = False)]
  · simp only [grsM, ansM, sndM, sS_at, sI_1, sL_0, if_true, if_false, (by decide : ((4 : Int32) = 7) = False)]; exact hc3.2.2
  · have hn : ∀ g, g ∈ ([36, 37, 38, 39, 40, 41, 42, 43] : List Nat) → ¬ (f = g ∧ i = nx (M.1 35)) := fun g hg z => hf.elim (fun q => q (z.1 ▸ hg)) (fun q => q z.2)
    simp only [grsM, ansM, sndM, sS_1, sL_1, sI_at, hn 36 (by decide), hn 37 (by decide), hn 38 (by decide), hn 39 (by decide), hn 40 (by decide), hn 41 (by decide), hn 42 (by decide), hn 43 (by decide), if_true, if_false, (by decide : ((4 : Int32) = 7) = False)]
  · have hn : ∀ g, g ∈ ([44, 45] : List Nat) → ¬ (f = g ∧ i = nx (M.1 35)) := fun g hg z => hf.elim (fun q => q (z.1 ▸ hg)) (fun q => q z.2)
    simp only [grsM, ansM, sndM, sS_2, sI_2, sL_at, hn 44 (by decide), hn 45 (by decide), if_true, if_false, (by decide : ((4 : Int32) = 7) = False)]
theorem ans_snt {M : MS} {j : Nat} (hL : M.1 35 = nI (nx (M.1 35))) (hL4 : nx (M.1 35) < 400) : snt M (ansM M j 5) (nx (M.1 35)) := by
  have hc3 := cntS hL (by omega)
  refine ⟨fun f hf => ?_, ?_, fun f i hf => ?_, fun f i hf => ?_⟩
  · simp only [ansM, sndM, sS_at, sI_1, sL_0, if_neg hf, if_true, if_false, (by decide : ((5 : Int32) = 7) = False)]
  · simp only [ansM, sndM, sS_at, sI_1, sL_0, if_true, if_false, (by decide : ((5 : Int32) = 7) = False)]; exact hc3.2.2
  · have hn : ∀ g, g ∈ ([36, 37, 38, 39, 40, 41, 42, 43] : List Nat) → ¬ (f = g ∧ i = nx (M.1 35)) := fun g hg z => hf.elim (fun q => q (z.1 ▸ hg)) (fun q => q z.2)
    simp only [ansM, sndM, sS_1, sL_1, sI_at, hn 36 (by decide), hn 37 (by decide), hn 38 (by decide), hn 39 (by decide), hn 40 (by decide), hn 41 (by decide), hn 42 (by decide), hn 43 (by decide), if_true, if_false, (by decide : ((5 : Int32) = 7) = False)]
  · have hn : ∀ g, g ∈ ([44, 45] : List Nat) → ¬ (f = g ∧ i = nx (M.1 35)) := fun g hg z => hf.elim (fun q => q (z.1 ▸ hg)) (fun q => q z.2)
    simp only [ansM, sndM, sS_2, sI_2, sL_at, hn 44 (by decide), hn 45 (by decide), if_true, if_false, (by decide : ((5 : Int32) = 7) = False)]
theorem lte_snt {M : MS} {j : Nat} (hL : M.1 35 = nI (nx (M.1 35))) (hL4 : nx (M.1 35) < 400) : snt M (sL (ansM M j 7) 44 (nx (M.1 35)) ((ansM M j 7).2.2 44 j)) (nx (M.1 35)) := by
  have hc3 := cntS hL (by omega)
  refine ⟨fun f hf => ?_, ?_, fun f i hf => ?_, fun f i hf => ?_⟩
  · simp only [ansM, sndM, sS_at, sI_1, sL_0, if_neg hf, if_true, if_false]
  · simp only [ansM, sndM, sS_at, sI_1, sL_0, if_true, if_false]; exact hc3.2.2
  · have hn : ∀ g, g ∈ ([36, 37, 38, 39, 40, 41, 42, 43] : List Nat) → ¬ (f = g ∧ i = nx (M.1 35)) := fun g hg z => hf.elim (fun q => q (z.1 ▸ hg)) (fun q => q z.2)
    simp only [ansM, sndM, sS_1, sL_1, sI_at, hn 36 (by decide), hn 37 (by decide), hn 38 (by decide), hn 39 (by decide), hn 40 (by decide), hn 41 (by decide), hn 42 (by decide), hn 43 (by decide), if_true, if_false]
  · have hn : ∀ g, g ∈ ([44, 45] : List Nat) → ¬ (f = g ∧ i = nx (M.1 35)) := fun g hg z => hf.elim (fun q => q (z.1 ▸ hg)) (fun q => q z.2)
    simp only [ansM, sndM, sS_2, sI_2, sL_at, hn 44 (by decide), hn 45 (by decide), if_true, if_false]
theorem rfs_eq (M : MS) (j : Nat) : rfsM M j = sS (ansM M j 5) 50 (M.1 50 + 1) := by
  unfold rfsM ansM sndM
  simp only [(by decide : ((5 : Int32) = 7) = False), if_false]
  refine ms_ext (fun k => ?_) (fun _ _ => rfl) (fun _ _ => rfl)
  simp only [sL_0, sI_1, sS_at]
  split <;> split <;> simp_all
theorem lte_eq (M : MS) (j : Nat) : lteM M j = sS (sL (ansM M j 7) 44 (nx (M.1 35)) ((ansM M j 7).2.2 44 j)) 51 (M.1 51 + 1) := by
  unfold lteM ansM sndM
  simp only [if_true]
  refine ms_ext (fun k => ?_) (fun _ _ => rfl) (fun _ _ => rfl)
  simp only [sL_0, sI_1, sS_at]
  split <;> split <;> simp_all
section K23
variable (l : Launch) (G : WG) {hp h : Hp} {A : AD} {M : MS}
theorem c_answerGrant {j t a : Nat} (hR : RH G hp A M h) (hT : tidy M) (hL : M.1 35 = nI (nx (M.1 35))) (hL4 : nx (M.1 35) < 400) (hj : j < nx (M.1 35)) (ht : t < nx (M.1 11)) (ha : a < nx (M.2.1 21 t)) : SpN l G mX11_answerGrant [.ref (A.1 0 0), .ref (A.1 9 j), .ref (A.1 8 (20 * t + a))] h (fun h' => ∃ A', RH G hp A' (grsM M j t a) h' ∧ ext A M A') := by
  refine Sp.intro (lv := [_, _, _, _]) (by decide) rfl (Nat.le_of_ble_eq_true rfl) ?_
  refine wp_widen (rc' := 2) (rs' := 610) (Nat.le_refl _) (Nat.le_refl _) ?_
  have hjL : j ≠ nx (M.1 35) := by omega
  refine wp_newC (pc := 0) (rc := 1) (rs := 600) (ci := 3) (fs := [.int 0, .int 0, .int 0, .int 0, .int 0, .int 0, .long 0, .int 0, .long 0, .int 0]) dX11_answerGrant_0 nw_X11_169 rfl nd_3 (fun e h en ec ef => ?_)
  have hpn := hR.hpn en
  have ene := hR.ngE en
  have hg := hR.2.2.2.1
  have hR := hR.fresh en ec ef
  refine wp_dup (pc := 3) dX11_answerGrant_3 rfl ?_
  refine wp_iconst (pc := 4) (v := 4) dX11_answerGrant_4 (by decide) ?_
  refine wp_aload_n (pc := 5) dX11_answerGrant_5 rfl rfl ?_
  refine wp_get (pc := 6) dX11_answerGrant_6 fl_X11_224_3 (hR.lt hj) rfl ?_
  refine wp_aload_n (pc := 9) dX11_answerGrant_9 rfl rfl ?_
  refine wp_get (pc := 10) dX11_answerGrant_10 fl_X11_227_3 (hR.lt hj) rfl ?_
  refine wp_aload_n (pc := 13) dX11_answerGrant_13 rfl rfl ?_
  refine wp_get (pc := 14) dX11_answerGrant_14 fl_X11_230_3 (hR.lt hj) rfl ?_
  refine wc_IN (pc := 17) (μ2 := mX2_init) (rc := 1) (rs := 600) [_, _, _, _] dX11_answerGrant_17 rfl cc_X11_171 rfl ⟨(Nat.le_of_ble_eq_true rfl), (Nat.le_of_ble_eq_true rfl)⟩ (Nat.le_of_ble_eq_true rfl) (c_i2 l G _ (hR.pr (up_s ..))) (fun h q => ?_)
  obtain ⟨ec, ef⟩ := q
  have hR := hR.upf ene ec ef
  refine wp_astore_n (pc := 20) (lv' := [_, _, _, _]) dX11_answerGrant_20 rfl (Nat.le_of_ble_eq_true rfl) rfl rfl ?_
  refine wp_aload_n (pc := 21) dX11_answerGrant_21 rfl rfl ?_
  refine wp_aload_n (pc := 22) dX11_answerGrant_22 rfl rfl ?_
  refine wp_get (pc := 23) dX11_answerGrant_23 fl_X11_264_2 (hR.gi hT ht ha) rfl ?_
  refine wp_aload_n (pc := 26) dX11_answerGrant_26 rfl rfl ?_
  refine wp_get (pc := 27) dX11_answerGrant_27 fl_X11_265_2 (hR.gi hT ht ha) rfl ?_
  refine wp_aload_n (pc := 30) dX11_answerGrant_30 rfl rfl ?_
  refine wp_get (pc := 31) dX11_answerGrant_31 fl_X11_266_2 (hR.gi hT ht ha) rfl ?_
  refine wc_VN (pc := 34) (μ2 := mX2_fill) (rc := 1) (rs := 600) [_, _, _] dX11_answerGrant_34 rfl (hR.pr (up_s ..)) rfl cv_X11_174_3 rfl ⟨(Nat.le_of_ble_eq_true rfl), (Nat.le_of_ble_eq_true rfl)⟩ (Nat.le_of_ble_eq_true rfl) (c_fill l G _ (hR.pr (up_s ..))) (fun h q => ?_)
  obtain ⟨ec, ef⟩ := q
  have hR := hR.upf ene ec ef
  refine wp_aload_n (pc := 37) dX11_answerGrant_37 rfl rfl ?_
  refine wp_aload_n (pc := 38) dX11_answerGrant_38 rfl rfl ?_
  refine wc_VN (pc := 39) (μ2 := mX2_takeMarkOf) (rc := 1) (rs := 600) [_] dX11_answerGrant_39 rfl (hR.pr (up_s ..)) rfl cv_X11_236_3 rfl ⟨(Nat.le_of_ble_eq_true rfl), (Nat.le_of_ble_eq_true rfl)⟩ (Nat.le_of_ble_eq_true rfl) (c_takeMark l G _ (hR.pr (up_s ..)) (hR.lt hj) (RH.lne hR hj)) (fun h q => ?_)
  obtain ⟨ec, ef⟩ := q
  have hR := hR.upf ene ec ef
  refine wp_aload_n (pc := 42) dX11_answerGrant_42 rfl rfl ?_
  refine wp_aload_n (pc := 43) dX11_answerGrant_43 rfl rfl ?_
  refine wc_VV (pc := 44) (μ2 := mX11_send) (rc := 0) (rs := 0) [_] dX11_answerGrant_44 rfl hR.bd rfl cv_X11_200_12 rfl ⟨(Nat.le_of_ble_eq_true rfl), (Nat.le_of_ble_eq_true rfl)⟩ (Nat.le_of_ble_eq_true rfl) (c_send (hp := hp) (M' := grsM M j t a) l G hR hT hL hL4 (grs_snt hL hL4) (by rw [up_s]; simp [cLt, grsM, ansM, sndM, sI, sL, sS, fu, hjL]) (hhp_u hpn) hg) (fun r h q => ?_)
  obtain ⟨rfl, A9, hR, hE, -⟩ := q
  have e0 : A9.1 0 0 = A.1 0 0 := hE 0 0 (by decide) (by decide) (vl_0.mpr rfl)
  rw [← e0]
  refine wp_pop (pc := 47) dX11_answerGrant_47 rfl ?_
  exact wp_vret (pc := 48) dX11_answerGrant_48 rfl ⟨rfl, A9, hR, hE⟩
theorem c_answerRefusal {j : Nat} (hR : RH G hp A M h) (hT : tidy M) (hL : M.1 35 = nI (nx (M.1 35))) (hL4 : nx (M.1 35) < 400) (hj : j < nx (M.1 35)) : SpN l G mX11_answerRefusal [.ref (A.1 0 0), .ref (A.1 9 j)] h (fun h' => ∃ A', RH G hp A' (rfsM M j) h' ∧ ext A M A') := by
  refine Sp.intro (lv := [_, _, _]) (by decide) rfl (Nat.le_of_ble_eq_true rfl) ?_
  refine wp_widen (rc' := 2) (rs' := 610) (Nat.le_refl _) (Nat.le_refl _) ?_
  have hjL : j ≠ nx (M.1 35) := by omega
  refine wp_newC (pc := 0) (rc := 1) (rs := 600) (ci := 3) (fs := [.int 0, .int 0, .int 0, .int 0, .int 0, .int 0, .long 0, .int 0, .long 0, .int 0]) dX11_answerRefusal_0 nw_X11_169 rfl nd_3 (fun e h en ec ef => ?_)
  have hpn := hR.hpn en
  have ene := hR.ngE en
  have hg := hR.2.2.2.1
  have hR := hR.fresh en ec ef
  refine wp_dup (pc := 3) dX11_answerRefusal_3 rfl ?_
  refine wp_iconst (pc := 4) (v := 5) dX11_answerRefusal_4 (by decide) ?_
  refine wp_aload_n (pc := 5) dX11_answerRefusal_5 rfl rfl ?_
  refine wp_get (pc := 6) dX11_answerRefusal_6 fl_X11_224_3 (hR.lt hj) rfl ?_
  refine wp_aload_n (pc := 9) dX11_answerRefusal_9 rfl rfl ?_
  refine wp_get (pc := 10) dX11_answerRefusal_10 fl_X11_227_3 (hR.lt hj) rfl ?_
  refine wp_aload_n (pc := 13) dX11_answerRefusal_13 rfl rfl ?_
  refine wp_get (pc := 14) dX11_answerRefusal_14 fl_X11_230_3 (hR.lt hj) rfl ?_
  refine wc_IN (pc := 17) (μ2 := mX2_init) (rc := 1) (rs := 600) [_, _, _, _] dX11_answerRefusal_17 rfl cc_X11_171 rfl ⟨(Nat.le_of_ble_eq_true rfl), (Nat.le_of_ble_eq_true rfl)⟩ (Nat.le_of_ble_eq_true rfl) (c_i2 l G _ (hR.pr (up_s ..))) (fun h q => ?_)
  obtain ⟨ec, ef⟩ := q
  have hR := hR.upf ene ec ef
  refine wp_astore_n (pc := 20) (lv' := [_, _, _]) dX11_answerRefusal_20 rfl (Nat.le_of_ble_eq_true rfl) rfl rfl ?_
  refine wp_aload_n (pc := 21) dX11_answerRefusal_21 rfl rfl ?_
  refine wp_aload_n (pc := 22) dX11_answerRefusal_22 rfl rfl ?_
  refine wc_VN (pc := 23) (μ2 := mX2_takeMarkOf) (rc := 1) (rs := 600) [_] dX11_answerRefusal_23 rfl (hR.pr (up_s ..)) rfl cv_X11_236_3 rfl ⟨(Nat.le_of_ble_eq_true rfl), (Nat.le_of_ble_eq_true rfl)⟩ (Nat.le_of_ble_eq_true rfl) (c_takeMark l G _ (hR.pr (up_s ..)) (hR.lt hj) (RH.lne hR hj)) (fun h q => ?_)
  obtain ⟨ec, ef⟩ := q
  have hR := hR.upf ene ec ef
  refine wp_aload_n (pc := 26) dX11_answerRefusal_26 rfl rfl ?_
  refine wp_aload_n (pc := 27) dX11_answerRefusal_27 rfl rfl ?_
  refine wc_VV (pc := 28) (μ2 := mX11_send) (rc := 0) (rs := 0) [_] dX11_answerRefusal_28 rfl hR.bd rfl cv_X11_200_12 rfl ⟨(Nat.le_of_ble_eq_true rfl), (Nat.le_of_ble_eq_true rfl)⟩ (Nat.le_of_ble_eq_true rfl) (c_send (hp := hp) (M' := ansM M j 5) l G hR hT hL hL4 (ans_snt hL hL4) (by rw [up_s]; simp [cLt, ansM, sndM, sI, sL, sS, fu, hjL]) (hhp_u hpn) hg) (fun r h q => ?_)
  obtain ⟨rfl, A9, hR, hE, -⟩ := q
  have e0 : A9.1 0 0 = A.1 0 0 := hE 0 0 (by decide) (by decide) (vl_0.mpr rfl)
  rw [← e0]
  refine wp_pop (pc := 31) dX11_answerRefusal_31 rfl ?_
  refine wp_aload_n (pc := 32) dX11_answerRefusal_32 rfl rfl ?_
  refine wp_dup (pc := 33) dX11_answerRefusal_33 rfl ?_
  refine wp_get (pc := 34) dX11_answerRefusal_34 fl_X11_55_12 hR.bd rfl ?_
  rw [show (ansM M j 5).1 50 = M.1 50 from (ans_snt hL hL4).1 50 (by decide)]
  refine wp_iconst (pc := 37) (v := 1) dX11_answerRefusal_37 (by decide) ?_
  refine wp_iadd (pc := 38) dX11_answerRefusal_38 ?_
  refine wp_putC (pc := 39) dX11_answerRefusal_39 fl_X11_55_12 hR.bd (Or.inl rfl) (Nat.le_of_ble_eq_true rfl) rfl rfl rfl (fun h hq1 hq2 => ?_)
  have hR := hR.k0 (M' := sS (ansM M j 5) 50 (M.1 50 + 1)) rfl rfl rfl rfl rfl rfl hq1 hq2
  exact wp_vret (pc := 42) dX11_answerRefusal_42 rfl ⟨rfl, A9, by rw [rfs_eq]; exact hR, hE⟩
theorem c_answerLate {j : Nat} (hR : RH G hp A M h) (hT : tidy M) (hL : M.1 35 = nI (nx (M.1 35))) (hL4 : nx (M.1 35) < 400) (hj : j < nx (M.1 35)) : SpN l G mX11_answerLate [.ref (A.1 0 0), .ref (A.1 9 j)] h (fun h' => ∃ A', RH G hp A' (lteM M j) h' ∧ ext A M A') := by
  refine Sp.intro (lv := [_, _, _]) (by decide) rfl (Nat.le_of_ble_eq_true rfl) ?_
  refine wp_widen (rc' := 2) (rs' := 610) (Nat.le_refl _) (Nat.le_refl _) ?_
  have hjL : j ≠ nx (M.1 35) := by omega
  refine wp_newC (pc := 0) (rc := 1) (rs := 600) (ci := 3) (fs := [.int 0, .int 0, .int 0, .int 0, .int 0, .int 0, .long 0, .int 0, .long 0, .int 0]) dX11_answerLate_0 nw_X11_169 rfl nd_3 (fun e h en ec ef => ?_)
  have hpn := hR.hpn en
  have ene := hR.ngE en
  have hg := hR.2.2.2.1
  have hR := hR.fresh en ec ef
  refine wp_dup (pc := 3) dX11_answerLate_3 rfl ?_
  refine wp_bipush (pc := 4) (v := 7) dX11_answerLate_4 (by decide) ?_
  refine wp_aload_n (pc := 6) dX11_answerLate_6 rfl rfl ?_
  refine wp_get (pc := 7) dX11_answerLate_7 fl_X11_224_3 (hR.lt hj) rfl ?_
  refine wp_aload_n (pc := 10) dX11_answerLate_10 rfl rfl ?_
  refine wp_get (pc := 11) dX11_answerLate_11 fl_X11_227_3 (hR.lt hj) rfl ?_
  refine wp_aload_n (pc := 14) dX11_answerLate_14 rfl rfl ?_
  refine wp_get (pc := 15) dX11_answerLate_15 fl_X11_230_3 (hR.lt hj) rfl ?_
  refine wc_IN (pc := 18) (μ2 := mX2_init) (rc := 1) (rs := 600) [_, _, _, _] dX11_answerLate_18 rfl cc_X11_171 rfl ⟨(Nat.le_of_ble_eq_true rfl), (Nat.le_of_ble_eq_true rfl)⟩ (Nat.le_of_ble_eq_true rfl) (c_i2 l G _ (hR.pr (up_s ..))) (fun h q => ?_)
  obtain ⟨ec, ef⟩ := q
  have hR := hR.upf ene ec ef
  refine wp_astore_n (pc := 21) (lv' := [_, _, _]) dX11_answerLate_21 rfl (Nat.le_of_ble_eq_true rfl) rfl rfl ?_
  refine wp_aload_n (pc := 22) dX11_answerLate_22 rfl rfl ?_
  refine wp_iconst (pc := 23) (v := 0) dX11_answerLate_23 (by decide) ?_
  refine wp_iconst (pc := 24) (v := 0) dX11_answerLate_24 (by decide) ?_
  refine wp_aload_n (pc := 25) dX11_answerLate_25 rfl rfl ?_
  refine wp_get (pc := 26) dX11_answerLate_26 fl_X11_235_3 (hR.lt hj) rfl ?_
  refine wc_VN (pc := 29) (μ2 := mX2_fill) (rc := 1) (rs := 600) [_, _, _] dX11_answerLate_29 rfl (hR.pr (up_s ..)) rfl cv_X11_174_3 rfl ⟨(Nat.le_of_ble_eq_true rfl), (Nat.le_of_ble_eq_true rfl)⟩ (Nat.le_of_ble_eq_true rfl) (c_fill l G _ (hR.pr (up_s ..))) (fun h q => ?_)
  obtain ⟨ec, ef⟩ := q
  have hR := hR.upf ene ec ef
  refine wp_aload_n (pc := 32) dX11_answerLate_32 rfl rfl ?_
  refine wp_aload_n (pc := 33) dX11_answerLate_33 rfl rfl ?_
  refine wc_VV (pc := 34) (μ2 := mX11_send) (rc := 0) (rs := 0) [_] dX11_answerLate_34 rfl hR.bd rfl cv_X11_200_12 rfl ⟨(Nat.le_of_ble_eq_true rfl), (Nat.le_of_ble_eq_true rfl)⟩ (Nat.le_of_ble_eq_true rfl) (c_send (hp := hp) (M' := sL (ansM M j 7) 44 (nx (M.1 35)) ((ansM M j 7).2.2 44 j)) l G hR hT hL hL4 (lte_snt hL hL4) (by rw [up_s]; simp [cLt, ansM, sndM, sI, sL, sS, fu, hjL]) (hhp_u hpn) hg) (fun r h q => ?_)
  obtain ⟨rfl, A9, hR, hE, -⟩ := q
  have e0 : A9.1 0 0 = A.1 0 0 := hE 0 0 (by decide) (by decide) (vl_0.mpr rfl)
  rw [← e0]
  refine wp_pop (pc := 37) dX11_answerLate_37 rfl ?_
  refine wp_aload_n (pc := 38) dX11_answerLate_38 rfl rfl ?_
  refine wp_dup (pc := 39) dX11_answerLate_39 rfl ?_
  refine wp_get (pc := 40) dX11_answerLate_40 fl_X11_58_12 hR.bd rfl ?_
  rw [show (sL (ansM M j 7) 44 (nx (M.1 35)) ((ansM M j 7).2.2 44 j)).1 51 = M.1 51 from (lte_snt hL hL4).1 51 (by decide)]
  refine wp_iconst (pc := 43) (v := 1) dX11_answerLate_43 (by decide) ?_
  refine wp_iadd (pc := 44) dX11_answerLate_44 ?_
  refine wp_putC (pc := 45) dX11_answerLate_45 fl_X11_58_12 hR.bd (Or.inl rfl) (Nat.le_of_ble_eq_true rfl) rfl rfl rfl (fun h hq1 hq2 => ?_)
  have hR := hR.k0 (M' := sS (sL (ansM M j 7) 44 (nx (M.1 35)) ((ansM M j 7).2.2 44 j)) 51 (M.1 51 + 1)) rfl rfl rfl rfl rfl rfl hq1 hq2
  exact wp_vret (pc := 48) dX11_answerLate_48 rfl ⟨rfl, A9, by rw [lte_eq]; exact hR, hE⟩
theorem c_hearRenew {j t : Nat} (hR : RH G hp A M h) (hT : tidy M) (hL : M.1 35 = nI (nx (M.1 35))) (hL4 : nx (M.1 35) < 400) (hj : j < nx (M.1 35)) (ht : t < nx (M.1 11)) : SpN l G mX11_hearRenew [.ref (A.1 0 0), .ref (A.1 9 j), .ref (A.1 7 t), .long (kClk M (nx (M.1 27)))] h (fun h' => ∃ A', RH G hp A' (match mnt M j t with | none => lteM M j | some a => prlM M j t a) h' ∧ ext A M A') := by
  refine Sp.intro (lv := [_, _, _, _, _, _]) (by decide) rfl (Nat.le_of_ble_eq_true rfl) ?_
  refine wp_widen (rc' := 2) (rs' := 610) (Nat.le_refl _) (Nat.le_refl _) ?_
  have h20 := hT.1 t ht
  refine wp_aload_n (pc := 0) dX11_hearRenew_0 rfl rfl ?_
  refine wp_aload_n (pc := 1) dX11_hearRenew_1 rfl rfl ?_
  refine wc_TP (pc := 2) (μ2 := mX4_grantMeantBy) (rc := 2) (rs := 610) [_] dX11_hearRenew_2 rfl (hR.th ht) ct_X11_473 rfl ⟨(Nat.le_of_ble_eq_true rfl), (Nat.le_of_ble_eq_true rfl)⟩ (Nat.le_of_ble_eq_true rfl) (c_grantMeantBy l G hR hT ht hj) ?_
  refine wp_astoreQ (pc := 5) (lv' := [_, _, _, _, _, _]) dX11_hearRenew_5 (Nat.le_of_ble_eq_true rfl) rfl rfl ?_
  refine wp_aloadQ (pc := 7) dX11_hearRenew_7 rfl ?_
  refine wp_ifnonnull (pc := 9) (tgt := 20) dX11_hearRenew_9 (by decide) (fun a9 c9 => ?_) (fun c9 => ?_)
  · obtain ⟨a, g0, ha, rfl⟩ := gMn_s c9
    rw [c9]
    refine wp_aload (pc := 20) dX11_hearRenew_20 rfl ?_
    refine wp_lload_n (pc := 22) dX11_hearRenew_22 rfl rfl ?_
    refine wp_aload_n (pc := 23) dX11_hearRenew_23 rfl rfl ?_
    refine wp_getT (pc := 24) dX11_hearRenew_24 ft_X11_274 (hR.th ht) rfl ?_
    refine wp_i2l (pc := 27) dX11_hearRenew_27 ?_
    refine wp_ladd (pc := 28) dX11_hearRenew_28 ?_
    refine wp_putC (pc := 29) dX11_hearRenew_29 fl_X11_267_2 (hR.gi hT ht ha) (Or.inl rfl) (Nat.le_of_ble_eq_true rfl) rfl rfl rfl (fun h hq1 hq2 => ?_)
    have hR := hR.k8 (M' := sL (M) 26 (20 * t + a) (kClk M (nx (M.1 27)) + (lng M t).toInt64)) ((chg.refl _ _ _ _).sL (by decide) _) (vl8 (by omega) ht ha) (by rw [hq1]; simp [cc, cGr, sI, sL, sS, fu]) hq2
    refine wp_aload_n (pc := 32) dX11_hearRenew_32 rfl rfl ?_
    refine wp_aload_n (pc := 33) dX11_hearRenew_33 rfl rfl ?_
    refine wp_aload (pc := 34) dX11_hearRenew_34 rfl ?_
    refine wc_VN (pc := 36) (μ2 := mX11_answerGrant) (rc := 0) (rs := 0) [_, _] dX11_hearRenew_36 rfl hR.bd rfl cv_X11_459_12 rfl ⟨(Nat.le_of_ble_eq_true rfl), (Nat.le_of_ble_eq_true rfl)⟩ (Nat.le_of_ble_eq_true rfl) (c_answerGrant (M := sL M 26 (20 * t + a) (kClk M (nx (M.1 27)) + (lng M t).toInt64)) l G hR (tidy_of rfl rfl hT) hL hL4 hj ht ha) (fun h q => ?_)
    obtain ⟨A9, hR, hE⟩ := q
    exact wp_vret (pc := 39) dX11_hearRenew_39 rfl ⟨rfl, A9, by rw [g0]; exact hR, hE⟩
  · skip
    refine wp_aload_n (pc := 12) dX11_hearRenew_12 rfl rfl ?_
    refine wp_aload_n (pc := 13) dX11_hearRenew_13 rfl rfl ?_
    refine wc_VN (pc := 14) (μ2 := mX11_answerLate) (rc := 0) (rs := 0) [_] dX11_hearRenew_14 rfl hR.bd rfl cv_X11_477_12 rfl ⟨(Nat.le_of_ble_eq_true rfl), (Nat.le_of_ble_eq_true rfl)⟩ (Nat.le_of_ble_eq_true rfl) (c_answerLate l G hR hT hL hL4 hj) (fun h q => ?_)
    obtain ⟨A9, hR, hE⟩ := q
    refine wp_goto (pc := 17) (tgt := 39) dX11_hearRenew_17 (by decide) ?_
    exact wp_vret (pc := 39) dX11_hearRenew_39 rfl ⟨rfl, A9, by rw [gMn_n c9]; exact hR, hE⟩
end K23
