/-! ===== the class: letters are sent ===== -/
theorem tidy_3 {M M' : MS} (hT : tidy M) (h11 : M'.1 11 = M.1 11) (h35 : M'.1 35 = M.1 35) (h21 : M'.2.1 21 = M.2.1 21) (h54 : M'.2.1 54 = M.2.1 54) (h55 : M'.2.1 55 = M.2.1 55) : tidy M' := by unfold tidy at *; rw [h11, h35, h21, h54, h55]; exact hT
/-- one letter more, L, and nothing else -/
def snt (M M' : MS) (L : Nat) : Prop := (∀ f, f ≠ 35 → M'.1 f = M.1 f) ∧ M'.1 35 = nI (L + 1) ∧ (∀ f i, f ∉ ([36, 37, 38, 39, 40, 41, 42, 43] : List Nat) ∨ i ≠ L → M'.2.1 f i = M.2.1 f i) ∧ ∀ f i, f ∉ ([44, 45] : List Nat) ∨ i ≠ L → M'.2.2 f i = M.2.2 f i
theorem c_send (l : Launch) (G : WG) {hp hp0 h : Hp} {A : AD} {M M' : MS} (hR : RH G hp0 A M h) (hT : tidy M) {L : Nat} (hL : M.1 35 = nI L) (hL4 : L < 400) {e : Nat} (hs : snt M M' L) (he : hp0 e = some (cLt G A M' L)) (hhp : ∀ a x, hp a = some x → hp0 a = some x ∧ a ≠ e) (hg : hp (gE G) = some e_nil) : SpV l G mX11_send [.ref (A.1 0 0), .ref e] h (fun r h' => r = .int (nI L) ∧ ∃ A', RH G hp A' M' h' ∧ ext A M A' ∧ A'.2.2.2 = A.2.2.2) := by
  refine Sp.intro (lv := [_, _]) (by decide) rfl (Nat.le_of_ble_eq_true rfl) ?_
  refine wp_widen (rc' := 1) (rs' := 600) (Nat.le_refl _) (Nat.le_refl _) ?_
  have hLx : nx (M.1 35) = L := by rw [hL]; exact nx_nI (by omega)
  refine wp_aload_n (pc := 0) dX11_send_0 rfl rfl ?_
  refine wp_get (pc := 1) dX11_send_1 fl_X11_22_12 hR.bd rfl ?_
  refine wc_VP (pc := 4) (μ2 := mJx4a65c_size_8abf5) (rc := 1) (rs := 600) [] dX11_send_4 rfl (hR.lst (ll := 3) (by omega)) rfl cv_X11_87_0 rfl ⟨(Nat.le_of_ble_eq_true rfl), (Nat.le_of_ble_eq_true rfl)⟩ (Nat.le_of_ble_eq_true rfl) (show SpP l G mJx4a65c_size_8abf5 [_] _ (.int (nI (nx (M.1 35)))) from j_size l G _ (hR.lst (ll := 3) (by omega))) ?_
  refine wp_sipush (pc := 7) (v := 400) dX11_send_7 (by decide) ?_
  refine wp_icmp_lt (pc := 10) (tgt := 16) dX11_send_10 (by decide) (fun _ => ?_) (fun z => absurd (by rw [hLx]; exact nI_lt (b := 400) hL4 (by decide)) z)
  refine wp_aload_n (pc := 16) dX11_send_16 rfl rfl ?_
  refine wp_get (pc := 17) dX11_send_17 fl_X11_22_12 hR.bd rfl ?_
  refine wp_aload_n (pc := 20) dX11_send_20 rfl rfl ?_
  refine wc_VV (pc := 21) (μ2 := mJx4a65c_add_9ea2d) (rc := 0) (rs := 0) [_] dX11_send_21 rfl (hR.lst (ll := 3) (by omega)) rfl cv_X11_96_0 rfl ⟨(Nat.le_of_ble_eq_true rfl), (Nat.le_of_ble_eq_true rfl)⟩ (Nat.le_of_ble_eq_true rfl) (j_add l G _ (hR.lst (ll := 3) (by omega)) (hR.dat (by omega)) (fun z => if_pos z) (hR.cap (by omega)).1 (show len M 3 < 400 from by show nx (M.1 35) < 400; omega) (hR.cap (by omega)).2 (hR.pr he) cO_3 (fun i hi => hR.vElt hT (by omega) hi)) (fun r h q => ?_)
  obtain ⟨rfl, b9, n9, h9⟩ := q
  obtain ⟨A9, hR, hE, -, hA3⟩ := RH.addL (hp := hp) (M' := M') hR hT hL hL4 hs.1 hs.2.1 hs.2.2.1 hs.2.2.2 he h9 hhp hg
  refine wp_pop (pc := 24) dX11_send_24 rfl ?_
  have e0 : A9.1 0 0 = A.1 0 0 := hE 0 0 (by decide) (by decide) (vl_0.mpr rfl)
  rw [← e0]
  refine wp_aload_n (pc := 25) dX11_send_25 rfl rfl ?_
  refine wp_get (pc := 26) dX11_send_26 fl_X11_22_12 hR.bd rfl ?_
  refine wc_VP (pc := 29) (μ2 := mJx4a65c_size_8abf5) (rc := 0) (rs := 0) [] dX11_send_29 rfl (hR.lst (ll := 3) (by omega)) rfl cv_X11_87_0 rfl ⟨(Nat.le_of_ble_eq_true rfl), (Nat.le_of_ble_eq_true rfl)⟩ (Nat.le_of_ble_eq_true rfl) (show SpP l G mJx4a65c_size_8abf5 [_] _ (.int (nI (nx (M'.1 35)))) from j_size l G _ (hR.lst (ll := 3) (by omega))) ?_
  refine wp_iconst (pc := 32) (v := 1) dX11_send_32 (by decide) ?_
  refine wp_isub (pc := 33) dX11_send_33 ?_
  exact wp_iret (pc := 34) dX11_send_34 rfl ⟨_, rfl, by rw [hs.2.1, nx_nI (show L + 1 < 2 ^ 31 by omega)]; exact congrArg Value.int (nI_pred L), A9, hR, hE, hA3⟩
theorem hhp_u {hp : Hp} {e : Nat} {c : EC} (hpn : hp e = none) : ∀ a x, hp a = some x → up hp e c a = some x ∧ a ≠ e := fun a x hx => by
  have hn : a ≠ e := fun z => by rw [z, hpn] at hx; cases hx
  exact ⟨by rw [up_n _ hn]; exact hx, hn⟩
theorem mkd_snt {M : MS} {k kp mode parts : Int32} {w t : Nat} {num : Int64} (hL : M.1 35 = nI (nx (M.1 35))) (hL4 : nx (M.1 35) < 400) : snt (sI (sI M 9 w (M.2.1 9 w + 1)) 32 (20 * w + t) (M.2.1 9 w + 1)) (mkdM M (nx (M.1 35)) k w kp t mode parts num) (nx (M.1 35)) := by
  have hc3 := cntS hL (by omega)
  have e9 : ∀ (M : MS) (j : Nat) (v : Int32), (sI M 9 j v).2.1 9 j = v := fun M j v => by rw [sI_at, if_pos ⟨rfl, rfl⟩]
  refine ⟨fun f hf => ?_, ?_, fun f i hf => ?_, fun f i hf => ?_⟩
  · simp only [mkdM, sndM, sS_at, sI_1, sL_0, if_neg hf]
  · simp only [mkdM, sndM, sS_at, sI_1, sL_0, if_true]; exact hc3.2.2
  · have hn : ∀ g, g ∈ ([36, 37, 38, 39, 40, 41, 42, 43] : List Nat) → ¬ (f = g ∧ i = nx (M.1 35)) := fun g hg z => hf.elim (fun q => q (z.1 ▸ hg)) (fun q => q z.2)
    simp only [mkdM, sndM, sS_1, sL_1, sI_at, hn 36 (by decide), hn 37 (by decide), hn 38 (by decide), hn 39 (by decide), hn 40 (by decide), hn 41 (by decide), hn 42 (by decide), hn 43 (by decide), if_false, if_true, true_and, and_self, and_true, false_and, (by decide : ((9 : Nat) = 43) = False), (by decide : ((9 : Nat) = 41) = False), (by decide : ((9 : Nat) = 40) = False), (by decide : ((9 : Nat) = 42) = False), (by decide : ((9 : Nat) = 39) = False), (by decide : ((9 : Nat) = 38) = False), (by decide : ((9 : Nat) = 37) = False), (by decide : ((9 : Nat) = 36) = False)]
  · have hn : ∀ g, g ∈ ([44, 45] : List Nat) → ¬ (f = g ∧ i = nx (M.1 35)) := fun g hg z => hf.elim (fun q => q (z.1 ▸ hg)) (fun q => q z.2)
    simp only [mkdM, sndM, sS_2, sI_2, sL_at, hn 44 (by decide), hn 45 (by decide), if_false]
section K15
variable (l : Launch) (G : WG) {hp h : Hp} {A : AD} {M : MS}
theorem c_sendMarked {k kp mode parts : Int32} {w t e : Nat} {num : Int64} (hpn : hp e = none) (ene : e ≠ gE G) (hR : RH G (up hp e (oB 3 [.int k, .int (nI w), .int kp, .int (nI t), .int mode, .int parts, .long num, .int 0, .long 0, .int 0])) A M h) (hb : bnd M) (hT : tidy M) (hL : M.1 35 = nI (nx (M.1 35))) (hL4 : nx (M.1 35) < 400) (hw : w < nx (M.1 6)) (ht : t < nx (M.1 11)) (hg : hp (gE G) = some e_nil) : SpV l G mX11_sendMarked [.ref (A.1 0 0), .ref e] h (fun r h' => r = .int (M.1 35) ∧ ∃ A', RH G hp A' (mkdM M (nx (M.1 35)) k w kp t mode parts num) h' ∧ ext A M A') := by
  refine Sp.intro (lv := [_, _, _, _]) (by decide) rfl (Nat.le_of_ble_eq_true rfl) ?_
  refine wp_widen (rc' := 1) (rs' := 600) (Nat.le_refl _) (Nat.le_refl _) ?_
  have hb9 := hb
  unfold bnd at hb9
  have hm : 20 * w + t < 20 * nx (M.1 6) := by omega
  refine wp_aload_n (pc := 0) dX11_sendMarked_0 rfl rfl ?_
  refine wp_aload_n (pc := 1) dX11_sendMarked_1 rfl rfl ?_
  refine wp_get (pc := 2) dX11_sendMarked_2 fl_X11_224_3 (hR.pr (up_s ..)) rfl ?_
  refine wc_VP (pc := 5) (μ2 := mX11_workerAt) (rc := 1) (rs := 600) [_] dX11_sendMarked_5 rfl hR.bd rfl cv_X11_127_12 rfl ⟨(Nat.le_of_ble_eq_true rfl), (Nat.le_of_ble_eq_true rfl)⟩ (Nat.le_of_ble_eq_true rfl) (c_workerAt l G _ hR hb) ?_
  rw [oAt_t hw (by omega)]
  refine wp_astore_n (pc := 8) (lv' := [_, _, _, _]) dX11_sendMarked_8 rfl (Nat.le_of_ble_eq_true rfl) rfl rfl ?_
  refine wp_aload_n (pc := 9) dX11_sendMarked_9 rfl rfl ?_
  refine wp_aload_n (pc := 10) dX11_sendMarked_10 rfl rfl ?_
  refine wp_get (pc := 11) dX11_sendMarked_11 fl_X11_224_3 (hR.pr (up_s ..)) rfl ?_
  refine wp_aload_n (pc := 14) dX11_sendMarked_14 rfl rfl ?_
  refine wp_get (pc := 15) dX11_sendMarked_15 fl_X11_230_3 (hR.pr (up_s ..)) rfl ?_
  refine wc_VP (pc := 18) (μ2 := mX11_memoryAt) (rc := 1) (rs := 600) [_, _] dX11_sendMarked_18 rfl hR.bd rfl cv_X11_186_12 rfl ⟨(Nat.le_of_ble_eq_true rfl), (Nat.le_of_ble_eq_true rfl)⟩ (Nat.le_of_ble_eq_true rfl) (c_memoryAt l G _ _ hR hb) ?_
  rw [mAt_t hb hw ht]
  refine wp_astore_n (pc := 21) (lv' := [_, _, _, _]) dX11_sendMarked_21 rfl (Nat.le_of_ble_eq_true rfl) rfl rfl ?_
  refine wp_aload_n (pc := 22) dX11_sendMarked_22 rfl rfl ?_
  refine wp_ifnullR (pc := 23) dX11_sendMarked_23 ?_
  refine wp_aload_n (pc := 26) dX11_sendMarked_26 rfl rfl ?_
  refine wp_ifnonnullR (pc := 27) (tgt := 33) dX11_sendMarked_27 (by decide) ?_
  refine wp_aload_n (pc := 33) dX11_sendMarked_33 rfl rfl ?_
  refine wp_dup (pc := 34) dX11_sendMarked_34 rfl ?_
  refine wp_get (pc := 35) dX11_sendMarked_35 fl_X11_405_11 (hR.wk hw) rfl ?_
  refine wp_iconst (pc := 38) (v := 1) dX11_sendMarked_38 (by decide) ?_
  refine wp_iadd (pc := 39) dX11_sendMarked_39 ?_
  refine wp_putC (pc := 40) dX11_sendMarked_40 fl_X11_405_11 (hR.wk hw) (Or.inl rfl) (Nat.le_of_ble_eq_true rfl) rfl rfl rfl (fun h hq1 hq2 => ?_)
  have hR := hR.k4 (M' := sI (M) 9 (w) (M.2.1 9 w + 1)) ((chg.refl _ _ _ _).sI (by decide) _) (vl_4.mpr hw) (by rw [hq1]; simp [cc, cWk, sI, sL, sS, fu]) hq2
  refine wp_aload_n (pc := 43) dX11_sendMarked_43 rfl rfl ?_
  refine wp_aload_n (pc := 44) dX11_sendMarked_44 rfl rfl ?_
  refine wp_get (pc := 45) dX11_sendMarked_45 fl_X11_405_11 (hR.wk hw) rfl ?_
  rw [show (sI M 9 w (M.2.1 9 w + 1)).2.1 9 w = M.2.1 9 w + 1 by rw [sI_at, if_pos ⟨rfl, rfl⟩]]
  refine wp_putC (pc := 48) dX11_sendMarked_48 fl_X11_243_3 (hR.pr (up_s ..)) (Or.inl rfl) (Nat.le_of_ble_eq_true rfl) rfl rfl rfl (fun h hq1 hq2 => ?_)
  have hR := hR.upf ene hq1 hq2
  refine wp_aload_n (pc := 51) dX11_sendMarked_51 rfl rfl ?_
  refine wp_aload_n (pc := 52) dX11_sendMarked_52 rfl rfl ?_
  refine wp_aload_n (pc := 53) dX11_sendMarked_53 rfl rfl ?_
  refine wp_get (pc := 54) dX11_sendMarked_54 fl_X11_43_12 hR.bd rfl ?_
  refine wc_UP (pc := 57) (μ2 := mX5_shows) (rc := 1) (rs := 600) [_] dX11_sendMarked_57 rfl (hR.wk hw) rfl cu_X11_408_11 rfl ⟨(Nat.le_of_ble_eq_true rfl), (Nat.le_of_ble_eq_true rfl)⟩ (Nat.le_of_ble_eq_true rfl) (c_shows11 l G _ (hR.wk hw)) ?_
  refine wp_putC (pc := 60) dX11_sendMarked_60 fl_X11_240_3 (hR.pr (up_s ..)) (Or.inl rfl) (Nat.le_of_ble_eq_true rfl) rfl rfl rfl (fun h hq1 hq2 => ?_)
  have hR := hR.upf ene hq1 hq2
  refine wp_aload_n (pc := 63) dX11_sendMarked_63 rfl rfl ?_
  refine wp_aload_n (pc := 64) dX11_sendMarked_64 rfl rfl ?_
  refine wp_get (pc := 65) dX11_sendMarked_65 fl_X11_243_3 (hR.pr (up_s ..)) rfl ?_
  refine wp_putC (pc := 68) dX11_sendMarked_68 fl_X11_303_4 (hR.mm (i := 20 * w + t) hm) (Or.inl rfl) (Nat.le_of_ble_eq_true rfl) rfl rfl rfl (fun h hq1 hq2 => ?_)
  have hR := hR.k6 (M' := sI (sI (M) 9 (w) (M.2.1 9 w + 1)) 32 (20 * w + t) (M.2.1 9 w + 1)) ((chg.refl _ _ _ _).sI (by decide) _) (vl_6.mpr hm) (by rw [hq1]; simp [cc, cMm, sI, sL, sS, fu]) hq2
  refine wp_aload_n (pc := 71) dX11_sendMarked_71 rfl rfl ?_
  refine wp_aload_n (pc := 72) dX11_sendMarked_72 rfl rfl ?_
  refine wc_VV (pc := 73) (μ2 := mX11_send) (rc := 0) (rs := 0) [_] dX11_sendMarked_73 rfl hR.bd rfl cv_X11_200_12 rfl ⟨(Nat.le_of_ble_eq_true rfl), (Nat.le_of_ble_eq_true rfl)⟩ (Nat.le_of_ble_eq_true rfl) (c_send (hp := hp) (M' := mkdM M (nx (M.1 35)) k w kp t mode parts num) l G hR (tidy_3 hT rfl rfl rfl rfl rfl) hL hL4 (mkd_snt hL hL4) (by rw [up_s]; simp [cLt, mkdM, sndM, sI, sL, sS, fu, shw, wClk]) (hhp_u hpn) hg) (fun r h q => ?_)
  obtain ⟨rfl, A9, hR, hE, -⟩ := q
  exact wp_iret (pc := 76) dX11_sendMarked_76 rfl ⟨_, rfl, by rw [← hL], A9, hR, hE⟩
theorem c_mba_5 {t : Nat} {mode parts : Int32} (hR : RH G hp A M h) (ht : t < nx (M.1 11)) (h1 : ¬ M.2.1 12 t = 1) (h2 : ¬ M.2.1 12 t = 2) (h3 : ¬ M.2.1 12 t = 3) : SpP l G mX4_mayBeAsked [.ref (A.1 7 t), .int mode, .int parts] h (.int (bi (askOk M t mode parts))) := by
  refine Sp.intro (lv := [_, _, _]) (by decide) rfl (Nat.le_of_ble_eq_true rfl) ?_
  refine wp_widen (rc' := 0) (rs' := 0) (Nat.le_refl _) (Nat.le_refl _) ?_
  refine wp_iload_n (pc := 0) dX4_mayBeAsked_0 rfl rfl ?_
  refine wp_if_ne (pc := 1) (tgt := 12) dX4_mayBeAsked_1 (by decide) (fun c1 => ?_) (fun c1 => ?_)
  · skip
    refine wp_iconst (pc := 12) (v := 0) dX4_mayBeAsked_12 (by decide) ?_
    exact wp_zret (pc := 13) dX4_mayBeAsked_13 rfl (by decide) ⟨by simp only [askOk, bi, fin, eq_false h1, eq_false h2, eq_false h3, eq_false c1, decide_true, decide_false, ite_self, if_true, if_false, Bool.true_eq_false, Bool.false_eq_true, reduceIte, reduceCtorEq, Bool.not_true, Bool.not_false, true_and, and_true, and_false, false_and, or_true, true_or, or_false, false_or, not_true_eq_false, not_false_eq_true] <;> (try rfl), rfl⟩
  · skip
    refine wp_iload_n (pc := 4) dX4_mayBeAsked_4 rfl rfl ?_
    refine wp_if_ne (pc := 5) (tgt := 12) dX4_mayBeAsked_5 (by decide) (fun c5 => ?_) (fun c5 => ?_)
    · skip
      refine wp_iconst (pc := 12) (v := 0) dX4_mayBeAsked_12 (by decide) ?_
      exact wp_zret (pc := 13) dX4_mayBeAsked_13 rfl (by decide) ⟨by simp only [askOk, bi, fin, eq_false h1, eq_false h2, eq_false h3, eq_true c1, eq_false c5, decide_true, decide_false, ite_self, if_true, if_false, Bool.true_eq_false, Bool.false_eq_true, reduceIte, reduceCtorEq, Bool.not_true, Bool.not_false, true_and, and_true, and_false, false_and, or_true, true_or, or_false, false_or, not_true_eq_false, not_false_eq_true] <;> (try rfl), rfl⟩
    · skip
      refine wp_iconst (pc := 8) (v := 1) dX4_mayBeAsked_8 (by decide) ?_
      refine wp_goto (pc := 9) (tgt := 13) dX4_mayBeAsked_9 (by decide) ?_
      exact wp_zret (pc := 13) dX4_mayBeAsked_13 rfl (by decide) ⟨by simp only [askOk, bi, fin, eq_false h1, eq_false h2, eq_false h3, eq_true c1, eq_true c5, decide_true, decide_false, ite_self, if_true, if_false, Bool.true_eq_false, Bool.false_eq_true, reduceIte, reduceCtorEq, Bool.not_true, Bool.not_false, true_and, and_true, and_false, false_and, or_true, true_or, or_false, false_or, not_true_eq_false, not_false_eq_true] <;> (try rfl), rfl⟩
theorem c_mba_8 {t : Nat} {mode parts : Int32} (hR : RH G hp A M h) (ht : t < nx (M.1 11)) (hk : M.2.1 12 t = 1) : SpP l G mX7_mayBeAsked [.ref (A.1 7 t), .int mode, .int parts] h (.int (bi (askOk M t mode parts))) := by
  refine Sp.intro (lv := [_, _, _]) (by decide) rfl (Nat.le_of_ble_eq_true rfl) ?_
  refine wp_widen (rc' := 0) (rs' := 0) (Nat.le_refl _) (Nat.le_refl _) ?_
  refine wp_iload_n (pc := 0) dX7_mayBeAsked_0 rfl rfl ?_
  refine wp_if_eq (pc := 1) (tgt := 9) dX7_mayBeAsked_1 (by decide) (fun c1 => ?_) (fun c1 => ?_)
  · skip
    refine wp_iload_n (pc := 9) dX7_mayBeAsked_9 rfl rfl ?_
    refine wp_if_ne (pc := 10) (tgt := 17) dX7_mayBeAsked_10 (by decide) (fun c10 => ?_) (fun c10 => ?_)
    · skip
      refine wp_iconst (pc := 17) (v := 0) dX7_mayBeAsked_17 (by decide) ?_
      exact wp_zret (pc := 18) dX7_mayBeAsked_18 rfl (by decide) ⟨by simp only [askOk, bi, fin, hk, (by decide : ((1 : Int32) = 2) = False), eq_true c1, eq_false c10, decide_true, decide_false, ite_self, if_true, if_false, Bool.true_eq_false, Bool.false_eq_true, reduceIte, reduceCtorEq, Bool.not_true, Bool.not_false, true_and, and_true, and_false, false_and, or_true, true_or, or_false, false_or, not_true_eq_false, not_false_eq_true] <;> (try rfl), rfl⟩
    · skip
      refine wp_iconst (pc := 13) (v := 1) dX7_mayBeAsked_13 (by decide) ?_
      refine wp_goto (pc := 14) (tgt := 18) dX7_mayBeAsked_14 (by decide) ?_
      exact wp_zret (pc := 18) dX7_mayBeAsked_18 rfl (by decide) ⟨by simp only [askOk, bi, fin, hk, (by decide : ((1 : Int32) = 2) = False), eq_true c1, eq_true c10, decide_true, decide_false, ite_self, if_true, if_false, Bool.true_eq_false, Bool.false_eq_true, reduceIte, reduceCtorEq, Bool.not_true, Bool.not_false, true_and, and_true, and_false, false_and, or_true, true_or, or_false, false_or, not_true_eq_false, not_false_eq_true] <;> (try rfl), rfl⟩
  · skip
    refine wp_iload_n (pc := 4) dX7_mayBeAsked_4 rfl rfl ?_
    refine wp_iconst (pc := 5) (v := 1) dX7_mayBeAsked_5 (by decide) ?_
    refine wp_icmp_ne (pc := 6) (tgt := 17) dX7_mayBeAsked_6 (by decide) (fun c6 => ?_) (fun c6 => ?_)
    · skip
      refine wp_iconst (pc := 17) (v := 0) dX7_mayBeAsked_17 (by decide) ?_
      exact wp_zret (pc := 18) dX7_mayBeAsked_18 rfl (by decide) ⟨by simp only [askOk, bi, fin, hk, (by decide : ((1 : Int32) = 2) = False), eq_false c1, eq_false c6, decide_true, decide_false, ite_self, if_true, if_false, Bool.true_eq_false, Bool.false_eq_true, reduceIte, reduceCtorEq, Bool.not_true, Bool.not_false, true_and, and_true, and_false, false_and, or_true, true_or, or_false, false_or, not_true_eq_false, not_false_eq_true] <;> (try rfl), rfl⟩
    · skip
      refine wp_iload_n (pc := 9) dX7_mayBeAsked_9 rfl rfl ?_
      refine wp_if_ne (pc := 10) (tgt := 17) dX7_mayBeAsked_10 (by decide) (fun c10 => ?_) (fun c10 => ?_)
      · skip
        refine wp_iconst (pc := 17) (v := 0) dX7_mayBeAsked_17 (by decide) ?_
        exact wp_zret (pc := 18) dX7_mayBeAsked_18 rfl (by decide) ⟨by simp only [askOk, bi, fin, hk, (by decide : ((1 : Int32) = 2) = False), eq_false c1, eq_true c6, eq_false c10, decide_true, decide_false, ite_self, if_true, if_false, Bool.true_eq_false, Bool.false_eq_true, reduceIte, reduceCtorEq, Bool.not_true, Bool.not_false, true_and, and_true, and_false, false_and, or_true, true_or, or_false, false_or, not_true_eq_false, not_false_eq_true] <;> (try rfl), rfl⟩
      · skip
        refine wp_iconst (pc := 13) (v := 1) dX7_mayBeAsked_13 (by decide) ?_
        refine wp_goto (pc := 14) (tgt := 18) dX7_mayBeAsked_14 (by decide) ?_
        exact wp_zret (pc := 18) dX7_mayBeAsked_18 rfl (by decide) ⟨by simp only [askOk, bi, fin, hk, (by decide : ((1 : Int32) = 2) = False), eq_false c1, eq_true c6, eq_true c10, decide_true, decide_false, ite_self, if_true, if_false, Bool.true_eq_false, Bool.false_eq_true, reduceIte, reduceCtorEq, Bool.not_true, Bool.not_false, true_and, and_true, and_false, false_and, or_true, true_or, or_false, false_or, not_true_eq_false, not_false_eq_true] <;> (try rfl), rfl⟩
theorem c_mba_1 {t : Nat} {mode parts : Int32} (hR : RH G hp A M h) (ht : t < nx (M.1 11)) (hk : M.2.1 12 t = 2) : SpP l G mX0_mayBeAsked [.ref (A.1 7 t), .int mode, .int parts] h (.int (bi (askOk M t mode parts))) := by
  refine Sp.intro (lv := [_, _, _]) (by decide) rfl (Nat.le_of_ble_eq_true rfl) ?_
  refine wp_widen (rc' := 0) (rs' := 0) (Nat.le_refl _) (Nat.le_refl _) ?_
  refine wp_iload_n (pc := 0) dX0_mayBeAsked_0 rfl rfl ?_
  refine wp_if_ne (pc := 1) (tgt := 21) dX0_mayBeAsked_1 (by decide) (fun c1 => ?_) (fun c1 => ?_)
  · skip
    refine wp_iconst (pc := 21) (v := 0) dX0_mayBeAsked_21 (by decide) ?_
    exact wp_zret (pc := 22) dX0_mayBeAsked_22 rfl (by decide) ⟨by simp only [askOk, bi, fin, hk, (by decide : ((2 : Int32) = 1) = False), (by decide : ((2 : Int32) = 3) = False), eq_false c1, decide_true, decide_false, ite_self, if_true, if_false, Bool.true_eq_false, Bool.false_eq_true, reduceIte, reduceCtorEq, Bool.not_true, Bool.not_false, true_and, and_true, and_false, false_and, or_true, true_or, or_false, false_or, not_true_eq_false, not_false_eq_true] <;> (try rfl), rfl⟩
  · skip
    refine wp_iload_n (pc := 4) dX0_mayBeAsked_4 rfl rfl ?_
    refine wp_iconst (pc := 5) (v := 1) dX0_mayBeAsked_5 (by decide) ?_
    refine wp_icmp_lt (pc := 6) (tgt := 21) dX0_mayBeAsked_6 (by decide) (fun c6 => ?_) (fun c6 => ?_)
    · skip
      refine wp_iconst (pc := 21) (v := 0) dX0_mayBeAsked_21 (by decide) ?_
      exact wp_zret (pc := 22) dX0_mayBeAsked_22 rfl (by decide) ⟨by simp only [askOk, bi, fin, hk, (by decide : ((2 : Int32) = 1) = False), (by decide : ((2 : Int32) = 3) = False), eq_true c1, eq_true c6, decide_true, decide_false, ite_self, if_true, if_false, Bool.true_eq_false, Bool.false_eq_true, reduceIte, reduceCtorEq, Bool.not_true, Bool.not_false, true_and, and_true, and_false, false_and, or_true, true_or, or_false, false_or, not_true_eq_false, not_false_eq_true] <;> (try rfl), rfl⟩
    · skip
      refine wp_iload_n (pc := 9) dX0_mayBeAsked_9 rfl rfl ?_
      refine wp_aload_n (pc := 10) dX0_mayBeAsked_10 rfl rfl ?_
      refine wp_get (pc := 11) dX0_mayBeAsked_11 fl_X0_9_1 (hR.thC ht hk) rfl ?_
      refine wp_icmp_gt (pc := 14) (tgt := 21) dX0_mayBeAsked_14 (by decide) (fun c14 => ?_) (fun c14 => ?_)
      · skip
        refine wp_iconst (pc := 21) (v := 0) dX0_mayBeAsked_21 (by decide) ?_
        exact wp_zret (pc := 22) dX0_mayBeAsked_22 rfl (by decide) ⟨by simp only [askOk, bi, fin, hk, (by decide : ((2 : Int32) = 1) = False), (by decide : ((2 : Int32) = 3) = False), eq_true c1, eq_false c6, eq_true c14, decide_true, decide_false, ite_self, if_true, if_false, Bool.true_eq_false, Bool.false_eq_true, reduceIte, reduceCtorEq, Bool.not_true, Bool.not_false, true_and, and_true, and_false, false_and, or_true, true_or, or_false, false_or, not_true_eq_false, not_false_eq_true] <;> (try rfl), rfl⟩
      · skip
        refine wp_iconst (pc := 17) (v := 1) dX0_mayBeAsked_17 (by decide) ?_
        refine wp_goto (pc := 18) (tgt := 22) dX0_mayBeAsked_18 (by decide) ?_
        exact wp_zret (pc := 22) dX0_mayBeAsked_22 rfl (by decide) ⟨by simp only [askOk, bi, fin, hk, (by decide : ((2 : Int32) = 1) = False), (by decide : ((2 : Int32) = 3) = False), eq_true c1, eq_false c6, eq_false c14, decide_true, decide_false, ite_self, if_true, if_false, Bool.true_eq_false, Bool.false_eq_true, reduceIte, reduceCtorEq, Bool.not_true, Bool.not_false, true_and, and_true, and_false, false_and, or_true, true_or, or_false, false_or, not_true_eq_false, not_false_eq_true] <;> (try rfl), rfl⟩
theorem c_mba_7 {t : Nat} {mode parts : Int32} (hR : RH G hp A M h) (ht : t < nx (M.1 11)) (hk : M.2.1 12 t = 3) : SpP l G mX6_mayBeAsked [.ref (A.1 7 t), .int mode, .int parts] h (.int (bi (askOk M t mode parts))) := by
  refine Sp.intro (lv := [_, _, _]) (by decide) rfl (Nat.le_of_ble_eq_true rfl) ?_
  refine wp_widen (rc' := 0) (rs' := 0) (Nat.le_refl _) (Nat.le_refl _) ?_
  refine wp_iload_n (pc := 0) dX6_mayBeAsked_0 rfl rfl ?_
  refine wp_if_eq (pc := 1) (tgt := 9) dX6_mayBeAsked_1 (by decide) (fun c1 => ?_) (fun c1 => ?_)
  · skip
    refine wp_iload_n (pc := 9) dX6_mayBeAsked_9 rfl rfl ?_
    refine wp_if_ne (pc := 10) (tgt := 17) dX6_mayBeAsked_10 (by decide) (fun c10 => ?_) (fun c10 => ?_)
    · skip
      refine wp_iconst (pc := 17) (v := 0) dX6_mayBeAsked_17 (by decide) ?_
      exact wp_zret (pc := 18) dX6_mayBeAsked_18 rfl (by decide) ⟨by simp only [askOk, bi, fin, hk, (by decide : ((3 : Int32) = 1) = False), (by decide : ((3 : Int32) = 2) = False), eq_true c1, eq_false c10, decide_true, decide_false, ite_self, if_true, if_false, Bool.true_eq_false, Bool.false_eq_true, reduceIte, reduceCtorEq, Bool.not_true, Bool.not_false, true_and, and_true, and_false, false_and, or_true, true_or, or_false, false_or, not_true_eq_false, not_false_eq_true] <;> (try rfl), rfl⟩
    · skip
      refine wp_iconst (pc := 13) (v := 1) dX6_mayBeAsked_13 (by decide) ?_
      refine wp_goto (pc := 14) (tgt := 18) dX6_mayBeAsked_14 (by decide) ?_
      exact wp_zret (pc := 18) dX6_mayBeAsked_18 rfl (by decide) ⟨by simp only [askOk, bi, fin, hk, (by decide : ((3 : Int32) = 1) = False), (by decide : ((3 : Int32) = 2) = False), eq_true c1, eq_true c10, decide_true, decide_false, ite_self, if_true, if_false, Bool.true_eq_false, Bool.false_eq_true, reduceIte, reduceCtorEq, Bool.not_true, Bool.not_false, true_and, and_true, and_false, false_and, or_true, true_or, or_false, false_or, not_true_eq_false, not_false_eq_true] <;> (try rfl), rfl⟩
  · skip
    refine wp_iload_n (pc := 4) dX6_mayBeAsked_4 rfl rfl ?_
    refine wp_iconst (pc := 5) (v := 1) dX6_mayBeAsked_5 (by decide) ?_
    refine wp_icmp_ne (pc := 6) (tgt := 17) dX6_mayBeAsked_6 (by decide) (fun c6 => ?_) (fun c6 => ?_)
    · skip
      refine wp_iconst (pc := 17) (v := 0) dX6_mayBeAsked_17 (by decide) ?_
      exact wp_zret (pc := 18) dX6_mayBeAsked_18 rfl (by decide) ⟨by simp only [askOk, bi, fin, hk, (by decide : ((3 : Int32) = 1) = False), (by decide : ((3 : Int32) = 2) = False), eq_false c1, eq_false c6, decide_true, decide_false, ite_self, if_true, if_false, Bool.true_eq_false, Bool.false_eq_true, reduceIte, reduceCtorEq, Bool.not_true, Bool.not_false, true_and, and_true, and_false, false_and, or_true, true_or, or_false, false_or, not_true_eq_false, not_false_eq_true] <;> (try rfl), rfl⟩
    · skip
      refine wp_iload_n (pc := 9) dX6_mayBeAsked_9 rfl rfl ?_
      refine wp_if_ne (pc := 10) (tgt := 17) dX6_mayBeAsked_10 (by decide) (fun c10 => ?_) (fun c10 => ?_)
      · skip
        refine wp_iconst (pc := 17) (v := 0) dX6_mayBeAsked_17 (by decide) ?_
        exact wp_zret (pc := 18) dX6_mayBeAsked_18 rfl (by decide) ⟨by simp only [askOk, bi, fin, hk, (by decide : ((3 : Int32) = 1) = False), (by decide : ((3 : Int32) = 2) = False), eq_false c1, eq_true c6, eq_false c10, decide_true, decide_false, ite_self, if_true, if_false, Bool.true_eq_false, Bool.false_eq_true, reduceIte, reduceCtorEq, Bool.not_true, Bool.not_false, true_and, and_true, and_false, false_and, or_true, true_or, or_false, false_or, not_true_eq_false, not_false_eq_true] <;> (try rfl), rfl⟩
      · skip
        refine wp_iconst (pc := 13) (v := 1) dX6_mayBeAsked_13 (by decide) ?_
        refine wp_goto (pc := 14) (tgt := 18) dX6_mayBeAsked_14 (by decide) ?_
        exact wp_zret (pc := 18) dX6_mayBeAsked_18 rfl (by decide) ⟨by simp only [askOk, bi, fin, hk, (by decide : ((3 : Int32) = 1) = False), (by decide : ((3 : Int32) = 2) = False), eq_false c1, eq_true c6, eq_true c10, decide_true, decide_false, ite_self, if_true, if_false, Bool.true_eq_false, Bool.false_eq_true, reduceIte, reduceCtorEq, Bool.not_true, Bool.not_false, true_and, and_true, and_false, false_and, or_true, true_or, or_false, false_or, not_true_eq_false, not_false_eq_true] <;> (try rfl), rfl⟩
end K15
