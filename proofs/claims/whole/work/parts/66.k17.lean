/-! ===== the class: ask, twice ===== -/
section K17
variable (l : Launch) (G : WG) {hp h : Hp} {A : AD} {M : MS}
theorem k_ask (w k t mode parts : Int32) (hR : RH G hp A M h) (hb : bnd M) (hT : tidy M) (hL : M.1 35 = nI (nx (M.1 35))) : KS l G hp A mX11_ask [.int w, .int k, .int t, .int mode, .int parts] M h (.int (f_ask M w k t mode parts).1) ((f_ask M w k t mode parts).2) := by
  refine Sp.intro (lv := [_, _, _, _, _, _, _, _, _]) (by decide) rfl (Nat.le_of_ble_eq_true rfl) ?_
  refine wp_widen (rc' := 2) (rs' := 610) (Nat.le_refl _) (Nat.le_refl _) ?_
  have hb9 := hb
  unfold bnd at hb9
  refine wp_aload_n (pc := 0) dX11_ask_0 rfl rfl ?_
  refine wp_iload_n (pc := 1) dX11_ask_1 rfl rfl ?_
  refine wc_VP (pc := 2) (μ2 := mX11_workerAt) (rc := 2) (rs := 610) [_] dX11_ask_2 rfl hR.bd rfl cv_X11_127_12 rfl ⟨(Nat.le_of_ble_eq_true rfl), (Nat.le_of_ble_eq_true rfl)⟩ (Nat.le_of_ble_eq_true rfl) (c_workerAt l G _ hR hb) ?_
  refine wp_astoreQ (pc := 5) (lv' := [_, _, _, _, _, _, _, _, _]) dX11_ask_5 (Nat.le_of_ble_eq_true rfl) rfl rfl ?_
  refine wp_aload_n (pc := 7) dX11_ask_7 rfl rfl ?_
  refine wp_iload_n (pc := 8) dX11_ask_8 rfl rfl ?_
  refine wc_VP (pc := 9) (μ2 := mX11_thingAt) (rc := 2) (rs := 610) [_] dX11_ask_9 rfl hR.bd rfl cv_X11_156_12 rfl ⟨(Nat.le_of_ble_eq_true rfl), (Nat.le_of_ble_eq_true rfl)⟩ (Nat.le_of_ble_eq_true rfl) (c_thingAt l G _ hR hb) ?_
  refine wp_astoreQ (pc := 12) (lv' := [_, _, _, _, _, _, _, _, _]) dX11_ask_12 (Nat.le_of_ble_eq_true rfl) (by simp [lv9, cat2_rf]) rfl ?_
  refine wp_aloadQ (pc := 14) dX11_ask_14 rfl ?_
  refine wp_ifnull (pc := 16) (tgt := 44) dX11_ask_16 (by decide) (fun c16 => ?_) (fun a16 c16 => ?_)
  · skip
    refine wp_bipush (pc := 44) (v := (-2)) dX11_ask_44 (by decide) ?_
    exact wp_iret (pc := 46) dX11_ask_46 rfl ⟨_, rfl, by unfold f_ask; rw [if_pos (thr_1 (oAt_n c16))], A, by unfold f_ask; rw [if_pos (thr_1 (oAt_n c16))]; exact hR, ext.refl A M⟩
  · obtain ⟨i, hi, rfl, rfl⟩ := oAt_s c16 (by omega)
    rw [oAt_t hi (by omega)]
    have i1 := isIx_nI hi (show nx (M.1 6) < 2 ^ 31 by omega)
    have e1 : nx (nI i) = i := nx_nI (by omega)
    refine wp_aloadQ (pc := 19) dX11_ask_19 rfl ?_
    refine wp_ifnull (pc := 21) (tgt := 44) dX11_ask_21 (by decide) (fun c21 => ?_) (fun a21 c21 => ?_)
    · skip
      refine wp_bipush (pc := 44) (v := (-2)) dX11_ask_44 (by decide) ?_
      exact wp_iret (pc := 46) dX11_ask_46 rfl ⟨_, rfl, by unfold f_ask; rw [if_pos (thr_3 (oAt_n c21))], A, by unfold f_ask; rw [if_pos (thr_3 (oAt_n c21))]; exact hR, ext.refl A M⟩
    · obtain ⟨j, hj, rfl, rfl⟩ := oAt_s c21 (by omega)
      rw [oAt_t hj (by omega)]
      have i2 := isIx_nI hj (show nx (M.1 11) < 2 ^ 31 by omega)
      have e2 : nx (nI j) = j := nx_nI (by omega)
      refine wp_aload_n (pc := 24) dX11_ask_24 rfl rfl ?_
      refine wp_iload_n (pc := 25) dX11_ask_25 rfl rfl ?_
      refine wc_VP (pc := 26) (μ2 := mX11_keeperAt) (rc := 2) (rs := 610) [_] dX11_ask_26 rfl hR.bd rfl cv_X11_144_12 rfl ⟨(Nat.le_of_ble_eq_true rfl), (Nat.le_of_ble_eq_true rfl)⟩ (Nat.le_of_ble_eq_true rfl) (c_keeperAt l G _ hR hb) ?_
      refine wp_ifnull (pc := 29) (tgt := 44) dX11_ask_29 (by decide) (fun c29 => ?_) (fun a29 c29 => ?_)
      · skip
        refine wp_bipush (pc := 44) (v := (-2)) dX11_ask_44 (by decide) ?_
        exact wp_iret (pc := 46) dX11_ask_46 rfl ⟨_, rfl, by unfold f_ask; rw [if_pos (thr_2 (oAt_n c29))], A, by unfold f_ask; rw [if_pos (thr_2 (oAt_n c29))]; exact hR, ext.refl A M⟩
      · have i3 := oAt_i c29
        refine wp_aload (pc := 32) dX11_ask_32 rfl ?_
        refine wp_iload (pc := 34) dX11_ask_34 rfl ?_
        refine wp_iload (pc := 36) dX11_ask_36 rfl ?_
        refine w_mba l G hR hj (Nat.le_of_ble_eq_true rfl) ?_
        refine wp_ifB_ne (pc := 41) (tgt := 47) dX11_ask_41 (by decide) (fun c41 => ?_) (fun c41 => ?_)
        · skip
          refine wp_aload (pc := 47) dX11_ask_47 rfl ?_
          refine wp_get (pc := 49) dX11_ask_49 fl_X11_143_11 (hR.wk hi) rfl ?_
          refine wp_if_ne (pc := 52) (tgt := 58) dX11_ask_52 (by decide) (fun c52 => ?_) (fun c52 => ?_)
          · skip
            refine wp_aload_n (pc := 58) dX11_ask_58 rfl rfl ?_
            refine wp_iconst (pc := 59) (v := 1) dX11_ask_59 (by decide) ?_
            refine wc_VP (pc := 60) (μ2 := mX11_hasRoomFor) (rc := 2) (rs := 610) [_] dX11_ask_60 rfl hR.bd rfl cv_X11_165_12 rfl ⟨(Nat.le_of_ble_eq_true rfl), (Nat.le_of_ble_eq_true rfl)⟩ (Nat.le_of_ble_eq_true rfl) (c_hasRoomFor l G _ hR hb (by decide)) ?_
            refine wp_ifB_ne (pc := 63) (tgt := 69) dX11_ask_63 (by decide) (fun c63 => ?_) (fun c63 => ?_)
            · have h63 : nx (M.1 35) + 1 ≤ 400 := of_decide_eq_true c63
              have hL4 : nx (M.1 35) < 400 := by omega
              have hf : f_ask M (nI i) k (nI j) mode parts = (M.1 35, mkdM M (nx (M.1 35)) 0 i k j mode parts 0) := by unfold f_ask f_marked; rw [if_neg (by rw [thr_a i1 i3 i2]; decide), e2, if_neg (by rw [c41]; decide), e1, if_neg c52, if_neg (fun z => ((n400 hL hb9.2.2.2.1).mp z) (by omega))]
              refine wp_newC (pc := 69) (rc := 1) (rs := 600) (ci := 3) (fs := [.int 0, .int 0, .int 0, .int 0, .int 0, .int 0, .long 0, .int 0, .long 0, .int 0]) dX11_ask_69 nw_X11_169 rfl nd_3 (fun e h en ec ef => ?_)
              have hpn := hR.hpn en
              have ene := hR.ngE en
              have hg := hR.2.2.2.1
              have hR := hR.fresh en ec ef
              refine wp_dup (pc := 72) dX11_ask_72 rfl ?_
              refine wp_iconst (pc := 73) (v := 0) dX11_ask_73 (by decide) ?_
              refine wp_iload_n (pc := 74) dX11_ask_74 rfl rfl ?_
              refine wp_iload_n (pc := 75) dX11_ask_75 rfl rfl ?_
              refine wp_iload_n (pc := 76) dX11_ask_76 rfl rfl ?_
              refine wc_IN (pc := 77) (μ2 := mX2_init) (rc := 1) (rs := 600) [_, _, _, _] dX11_ask_77 rfl cc_X11_171 rfl ⟨(Nat.le_of_ble_eq_true rfl), (Nat.le_of_ble_eq_true rfl)⟩ (Nat.le_of_ble_eq_true rfl) (c_i2 l G _ (hR.pr (up_s ..))) (fun h q => ?_)
              obtain ⟨ec, ef⟩ := q
              have hR := hR.upf ene ec ef
              refine wp_astore (pc := 80) (lv' := [_, _, _, _, _, _, _, _, _]) dX11_ask_80 (Nat.le_of_ble_eq_true rfl) rfl rfl ?_
              refine wp_aload (pc := 82) dX11_ask_82 rfl ?_
              refine wp_iload (pc := 84) dX11_ask_84 rfl ?_
              refine wp_iload (pc := 86) dX11_ask_86 rfl ?_
              refine wp_lconst (pc := 88) (v := 0) dX11_ask_88 (by decide) ?_
              refine wc_VN (pc := 89) (μ2 := mX2_fill) (rc := 1) (rs := 600) [_, _, _] dX11_ask_89 rfl (hR.pr (up_s ..)) rfl cv_X11_174_3 rfl ⟨(Nat.le_of_ble_eq_true rfl), (Nat.le_of_ble_eq_true rfl)⟩ (Nat.le_of_ble_eq_true rfl) (c_fill l G _ (hR.pr (up_s ..))) (fun h q => ?_)
              obtain ⟨ec, ef⟩ := q
              have hR := hR.upf ene ec ef
              refine wp_aload_n (pc := 92) dX11_ask_92 rfl rfl ?_
              refine wp_aload (pc := 93) dX11_ask_93 rfl ?_
              refine wc_VV (pc := 95) (μ2 := mX11_sendMarked) (rc := 0) (rs := 0) [_] dX11_ask_95 rfl hR.bd rfl cv_X11_178_12 rfl ⟨(Nat.le_of_ble_eq_true rfl), (Nat.le_of_ble_eq_true rfl)⟩ (Nat.le_of_ble_eq_true rfl) (c_sendMarked l G hpn ene hR hb hT hL hL4 hi hj hg) (fun r h q => ?_)
              obtain ⟨rfl, A9, hR, hE⟩ := q
              exact wp_iret (pc := 98) dX11_ask_98 rfl ⟨_, rfl, by rw [hf], A9, by rw [hf]; exact hR, hE⟩
            · skip
              refine wp_bipush (pc := 66) (v := (-4)) dX11_ask_66 (by decide) ?_
              exact wp_iret (pc := 68) dX11_ask_68 rfl ⟨_, rfl, by unfold f_ask f_marked; rw [if_neg (by rw [thr_a i1 i3 i2]; decide), e2, if_neg (by rw [c41]; decide), e1, if_neg c52, if_pos ((n400 hL hb9.2.2.2.1).mpr (of_decide_eq_false c63))], A, by unfold f_ask f_marked; rw [if_neg (by rw [thr_a i1 i3 i2]; decide), e2, if_neg (by rw [c41]; decide), e1, if_neg c52, if_pos ((n400 hL hb9.2.2.2.1).mpr (of_decide_eq_false c63))]; exact hR, ext.refl A M⟩
          · skip
            refine wp_bipush (pc := 55) (v := (-3)) dX11_ask_55 (by decide) ?_
            exact wp_iret (pc := 57) dX11_ask_57 rfl ⟨_, rfl, by unfold f_ask; rw [if_neg (by rw [thr_a i1 i3 i2]; decide), e2, if_neg (by rw [c41]; decide), e1, if_pos c52], A, by unfold f_ask; rw [if_neg (by rw [thr_a i1 i3 i2]; decide), e2, if_neg (by rw [c41]; decide), e1, if_pos c52]; exact hR, ext.refl A M⟩
        · skip
          refine wp_bipush (pc := 44) (v := (-2)) dX11_ask_44 (by decide) ?_
          exact wp_iret (pc := 46) dX11_ask_46 rfl ⟨_, rfl, by unfold f_ask; rw [if_neg (by rw [thr_a i1 i3 i2]; decide), e2, if_pos c41], A, by unfold f_ask; rw [if_neg (by rw [thr_a i1 i3 i2]; decide), e2, if_pos c41]; exact hR, ext.refl A M⟩
theorem tw_snt {M : MS} {j : Nat} (hL : M.1 35 = nI (nx (M.1 35))) (hL4 : nx (M.1 35) < 400) : snt M (twcM M (nx (M.1 35)) j) (nx (M.1 35)) := by
  have hc3 := cntS hL (by omega)
  refine ⟨fun f hf => ?_, ?_, fun f i hf => ?_, fun f i hf => ?_⟩
  · simp only [twcM, sndM, sS_at, sI_1, sL_0, if_neg hf]
  · simp only [twcM, sndM, sS_at, sI_1, sL_0, if_true]; exact hc3.2.2
  · have hn : ∀ g, g ∈ ([36, 37, 38, 39, 40, 41, 42, 43] : List Nat) → ¬ (f = g ∧ i = nx (M.1 35)) := fun g hg z => hf.elim (fun q => q (z.1 ▸ hg)) (fun q => q z.2)
    simp only [twcM, sndM, sS_1, sL_1, sI_at, hn 36 (by decide), hn 37 (by decide), hn 38 (by decide), hn 39 (by decide), hn 40 (by decide), hn 41 (by decide), hn 42 (by decide), hn 43 (by decide), if_false]
  · have hn : ∀ g, g ∈ ([44, 45] : List Nat) → ¬ (f = g ∧ i = nx (M.1 35)) := fun g hg z => hf.elim (fun q => q (z.1 ▸ hg)) (fun q => q z.2)
    simp only [twcM, sndM, sS_2, sI_2, sL_at, hn 44 (by decide), hn 45 (by decide), if_false]
theorem RH.lne {G : WG} {hp h : Hp} {A : AD} {M : MS} {e : Nat} {c : EC} (hR : RH G (up hp e c) A M h) {j : Nat} (hj : j < nx (M.1 35)) : A.1 9 j ≠ e := (hR.2.2.1 e c (up_s ..)).2 9 j (vl_9.mpr hj)
theorem k_twice (v : Int32) (hR : RH G hp A M h) (hb : bnd M) (hT : tidy M) (hL : M.1 35 = nI (nx (M.1 35))) : KS l G hp A mX11_twice [.int v] M h (.int (f_twice M v).1) ((f_twice M v).2) := by
  refine Sp.intro (lv := [_, _, _, _]) (by decide) rfl (Nat.le_of_ble_eq_true rfl) ?_
  refine wp_widen (rc' := 2) (rs' := 610) (Nat.le_refl _) (Nat.le_refl _) ?_
  have hb9 := hb
  unfold bnd at hb9
  refine wp_aload_n (pc := 0) dX11_twice_0 rfl rfl ?_
  refine wp_iload_n (pc := 1) dX11_twice_1 rfl rfl ?_
  refine wc_VP (pc := 2) (μ2 := mX11_letterAt) (rc := 2) (rs := 610) [_] dX11_twice_2 rfl hR.bd rfl cv_X11_205_12 rfl ⟨(Nat.le_of_ble_eq_true rfl), (Nat.le_of_ble_eq_true rfl)⟩ (Nat.le_of_ble_eq_true rfl) (c_letterAt l G _ hR hb) ?_
  refine wp_astore_nQ (pc := 5) (lv' := [_, _, _, _]) dX11_twice_5 rfl (Nat.le_of_ble_eq_true rfl) rfl rfl ?_
  refine wp_aload_nQ (pc := 6) dX11_twice_6 rfl rfl ?_
  refine wp_ifnonnull (pc := 7) (tgt := 13) dX11_twice_7 (by decide) (fun a7 c7 => ?_) (fun c7 => ?_)
  · obtain ⟨j, hj, rfl, rfl⟩ := oAt_s c7 (by omega)
    rw [oAt_t hj (by omega)]
    have hix := isIx_nI hj (show nx (M.1 35) < 2 ^ 31 by omega)
    have e1 : nx (nI j) = j := nx_nI (by omega)
    refine wp_aload_n (pc := 13) dX11_twice_13 rfl rfl ?_
    refine wp_iconst (pc := 14) (v := 1) dX11_twice_14 (by decide) ?_
    refine wc_VP (pc := 15) (μ2 := mX11_hasRoomFor) (rc := 2) (rs := 610) [_] dX11_twice_15 rfl hR.bd rfl cv_X11_165_12 rfl ⟨(Nat.le_of_ble_eq_true rfl), (Nat.le_of_ble_eq_true rfl)⟩ (Nat.le_of_ble_eq_true rfl) (c_hasRoomFor l G _ hR hb (by decide)) ?_
    refine wp_ifB_ne (pc := 18) (tgt := 24) dX11_twice_18 (by decide) (fun c18 => ?_) (fun c18 => ?_)
    · have h63 : nx (M.1 35) + 1 ≤ 400 := of_decide_eq_true c18
      have hL4 : nx (M.1 35) < 400 := by omega
      have hf : f_twice M (nI j) = (M.1 35, twcM M (nx (M.1 35)) j) := by unfold f_twice; rw [if_neg (by rw [hix]; decide), if_neg (fun z => ((n400 hL hb9.2.2.2.1).mp z) (by omega)), e1]
      have hjL : j ≠ nx (M.1 35) := by omega
      refine wp_newC (pc := 24) (rc := 1) (rs := 600) (ci := 3) (fs := [.int 0, .int 0, .int 0, .int 0, .int 0, .int 0, .long 0, .int 0, .long 0, .int 0]) dX11_twice_24 nw_X11_169 rfl nd_3 (fun e h en ec ef => ?_)
      have hpn := hR.hpn en
      have ene := hR.ngE en
      have hg := hR.2.2.2.1
      have hR := hR.fresh en ec ef
      refine wp_dup (pc := 27) dX11_twice_27 rfl ?_
      refine wp_aload_n (pc := 28) dX11_twice_28 rfl rfl ?_
      refine wp_get (pc := 29) dX11_twice_29 fl_X11_221_3 (hR.lt hj) rfl ?_
      refine wp_aload_n (pc := 32) dX11_twice_32 rfl rfl ?_
      refine wp_get (pc := 33) dX11_twice_33 fl_X11_224_3 (hR.lt hj) rfl ?_
      refine wp_aload_n (pc := 36) dX11_twice_36 rfl rfl ?_
      refine wp_get (pc := 37) dX11_twice_37 fl_X11_227_3 (hR.lt hj) rfl ?_
      refine wp_aload_n (pc := 40) dX11_twice_40 rfl rfl ?_
      refine wp_get (pc := 41) dX11_twice_41 fl_X11_230_3 (hR.lt hj) rfl ?_
      refine wc_IN (pc := 44) (μ2 := mX2_init) (rc := 1) (rs := 600) [_, _, _, _] dX11_twice_44 rfl cc_X11_171 rfl ⟨(Nat.le_of_ble_eq_true rfl), (Nat.le_of_ble_eq_true rfl)⟩ (Nat.le_of_ble_eq_true rfl) (c_i2 l G _ (hR.pr (up_s ..))) (fun h q => ?_)
      obtain ⟨ec, ef⟩ := q
      have hR := hR.upf ene ec ef
      refine wp_astore_n (pc := 47) (lv' := [_, _, _, _]) dX11_twice_47 rfl (Nat.le_of_ble_eq_true rfl) rfl rfl ?_
      refine wp_aload_n (pc := 48) dX11_twice_48 rfl rfl ?_
      refine wp_aload_n (pc := 49) dX11_twice_49 rfl rfl ?_
      refine wp_get (pc := 50) dX11_twice_50 fl_X11_233_3 (hR.lt hj) rfl ?_
      refine wp_aload_n (pc := 53) dX11_twice_53 rfl rfl ?_
      refine wp_get (pc := 54) dX11_twice_54 fl_X11_234_3 (hR.lt hj) rfl ?_
      refine wp_aload_n (pc := 57) dX11_twice_57 rfl rfl ?_
      refine wp_get (pc := 58) dX11_twice_58 fl_X11_235_3 (hR.lt hj) rfl ?_
      refine wc_VN (pc := 61) (μ2 := mX2_fill) (rc := 1) (rs := 600) [_, _, _] dX11_twice_61 rfl (hR.pr (up_s ..)) rfl cv_X11_174_3 rfl ⟨(Nat.le_of_ble_eq_true rfl), (Nat.le_of_ble_eq_true rfl)⟩ (Nat.le_of_ble_eq_true rfl) (c_fill l G _ (hR.pr (up_s ..))) (fun h q => ?_)
      obtain ⟨ec, ef⟩ := q
      have hR := hR.upf ene ec ef
      refine wp_aload_n (pc := 64) dX11_twice_64 rfl rfl ?_
      refine wp_aload_n (pc := 65) dX11_twice_65 rfl rfl ?_
      refine wc_VN (pc := 66) (μ2 := mX2_takeMarkOf) (rc := 1) (rs := 600) [_] dX11_twice_66 rfl (hR.pr (up_s ..)) rfl cv_X11_236_3 rfl ⟨(Nat.le_of_ble_eq_true rfl), (Nat.le_of_ble_eq_true rfl)⟩ (Nat.le_of_ble_eq_true rfl) (c_takeMark l G _ (hR.pr (up_s ..)) (hR.lt hj) (RH.lne hR hj)) (fun h q => ?_)
      obtain ⟨ec, ef⟩ := q
      have hR := hR.upf ene ec ef
      refine wp_aload_n (pc := 69) dX11_twice_69 rfl rfl ?_
      refine wp_aload_n (pc := 70) dX11_twice_70 rfl rfl ?_
      refine wc_VV (pc := 71) (μ2 := mX11_send) (rc := 0) (rs := 0) [_] dX11_twice_71 rfl hR.bd rfl cv_X11_200_12 rfl ⟨(Nat.le_of_ble_eq_true rfl), (Nat.le_of_ble_eq_true rfl)⟩ (Nat.le_of_ble_eq_true rfl) (c_send (hp := hp) (M' := twcM M (nx (M.1 35)) j) l G hR hT hL hL4 (tw_snt hL hL4) (by rw [up_s]; simp [cLt, twcM, sndM, sI, sL, sS, fu, hjL]) (hhp_u hpn) hg) (fun r h q => ?_)
      obtain ⟨rfl, A9, hR, hE, -⟩ := q
      exact wp_iret (pc := 74) dX11_twice_74 rfl ⟨_, rfl, by rw [hf, ← hL], A9, by rw [hf]; exact hR, hE⟩
    · skip
      refine wp_bipush (pc := 21) (v := (-4)) dX11_twice_21 (by decide) ?_
      exact wp_iret (pc := 23) dX11_twice_23 rfl ⟨_, rfl, by unfold f_twice; rw [if_neg (by rw [hix]; decide), if_pos ((n400 hL hb9.2.2.2.1).mpr (of_decide_eq_false c18))], A, by unfold f_twice; rw [if_neg (by rw [hix]; decide), if_pos ((n400 hL hb9.2.2.2.1).mpr (of_decide_eq_false c18))]; exact hR, ext.refl A M⟩
  · skip
    refine wp_bipush (pc := 10) (v := (-2)) dX11_twice_10 (by decide) ?_
    exact wp_iret (pc := 12) dX11_twice_12 rfl ⟨_, rfl, by unfold f_twice; rw [if_pos (oAt_n c7)], A, by unfold f_twice; rw [if_pos (oAt_n c7)]; exact hR, ext.refl A M⟩
end K17
