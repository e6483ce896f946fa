/-! ===== the class: put itself ===== -/
section RA35
variable {G : WG} {hp hp0 h h' : Hp} {A : AD} {M : MS} {y : Nat}
theorem put_54 (M : MS) (y : Nat) (what n : Int32) (z : Nat) : (putR M y what n z).2.1 54 y = what ∧ (putR M y what n z).2.1 55 y = n ∧ (putR M y what n z).2.1 56 y = (if what = 3 then M.2.1 21 (nx n) else if what = 4 then M.1 6 else 0) := by rw [(putR_1 M y what n z).2]; exact putB_at M y what n
theorem put_rh {what n : Int32} {r z : Nat} (hR : RH G hp0 A (sI M 54 y 0) h) (hT : tidy (sI M 54 y 0)) (hy : y < 6) (hz : ∀ i, i < 6 → i ≠ y → nx ((sI M 54 y 0).2.1 56 i) ≤ 20) (hz20 : z ≤ 20) (hrow : (what = 3 ∨ what = 4) → hp0 r = some (cRw G A (putR M y what n z) y)) (hcell : h' (A.1 16 y) = some (cTr G (aTr A y r) (putR M y what n z) y)) (hfr : ∀ q, q ≠ A.1 16 y → h' q = h q) (hhp : ∀ a x, hp a = some x → hp0 a = some x ∧ ((what = 3 ∨ what = 4) → a ≠ r)) (hg : hp (gE G) = some e_nil) : ∃ A2, RH G hp A2 (putR M y what n z) h' ∧ A2.1 0 0 = A.1 0 0 := by
  have p := (put_54 M y what n z).1
  exact ⟨aTr A y r, RH.putT hR hT hy (putR_1 M y what n z).1 (put_c2 M y what n z) (put_c3 M what n hz20) hz (fun q => hrow (by rw [p] at q; exact q)) hcell hfr (fun a x hx => ⟨(hhp a x hx).1, fun q => (hhp a x hx).2 (by rw [p] at q; exact q)⟩) hg, rfl⟩
theorem cTr_0 (M : MS) (y r : Nat) (n : Int32) : cTr G (aTr A y r) (putR M y 0 n 0) y = oB 9 [.null, .null, .null, .null] := by unfold cTr; rw [(put_54 M y 0 n 0).1]; rfl
theorem cTr_1 (M : MS) (y r : Nat) {t : Nat} (ht : t < 2 ^ 31) : cTr G (aTr A y r) (putR M y 1 (nI t) 0) y = oB 9 [.ref (A.1 7 t), .null, .null, .null] := by unfold cTr; rw [(put_54 M y 1 (nI t) 0).1, (put_54 M y 1 (nI t) 0).2.1, nx_nI ht]; rfl
theorem cTr_2 (M : MS) (y r : Nat) {t : Nat} (ht : t < 2 ^ 31) : cTr G (aTr A y r) (putR M y 2 (nI t) 0) y = oB 9 [.null, .ref (A.1 9 t), .null, .null] := by unfold cTr; rw [(put_54 M y 2 (nI t) 0).1, (put_54 M y 2 (nI t) 0).2.1, nx_nI ht]; rfl
theorem aTr_17 (A : AD) (y r : Nat) : (aTr A y r).1 17 y = r := by show (if 17 = 17 ∧ y = y then r else _) = r; rw [if_pos ⟨rfl, rfl⟩]
theorem cTr_3 (M : MS) (y r : Nat) (n : Int32) (z : Nat) : cTr G (aTr A y r) (putR M y 3 n z) y = oB 9 [.null, .null, .ref r, .null] := by unfold cTr; rw [(put_54 M y 3 n z).1, aTr_17]; rfl
theorem cTr_4 (M : MS) (y r : Nat) (n : Int32) (z : Nat) : cTr G (aTr A y r) (putR M y 4 n z) y = oB 9 [.null, .null, .null, .ref r] := by unfold cTr; rw [(put_54 M y 4 n z).1, aTr_17]; rfl
theorem put_57 (M : MS) (y : Nat) (what n : Int32) {z q : Nat} (hq : q < z) : (putR M y what n z).2.2 57 (20 * y + q) = ptV M what n q := by
  rw [(putR_v M y what n z).2, if_pos (by omega), show 20 * y + q - 20 * y = q by omega]
theorem cRw_3 (M : MS) (y : Nat) {t : Nat} (ht : t < 2 ^ 31) : cRw G A (putR M y 3 (nI t) (nx (M.2.1 21 t))) y = aJ (nx (M.2.1 21 t)) (fun q => if q < nx (M.2.1 21 t) then M.2.2 25 (20 * t + q) else 0) := by
  unfold cRw
  obtain ⟨p1, p2, p3⟩ := put_54 M y 3 (nI t) (nx (M.2.1 21 t))
  rw [if_pos p1, p3, if_pos rfl, nx_nI ht]
  refine congrArg (aJ _) (funext fun q => ?_)
  by_cases hq : q < nx (M.2.1 21 t)
  · rw [if_pos hq, if_pos hq, put_57 M y 3 (nI t) hq]; unfold ptV; rw [if_pos rfl, nx_nI ht]
  · rw [if_neg hq, if_neg hq]
theorem cRw_4 (M : MS) (y : Nat) {t : Nat} (ht : t < 2 ^ 31) : cRw G A (putR M y 4 (nI t) (nx (M.1 6))) y = aZ (nx (M.1 6)) (fun q => if q < nx (M.1 6) then bi (mayB M q t) else 0) := by
  unfold cRw
  obtain ⟨p1, p2, p3⟩ := put_54 M y 4 (nI t) (nx (M.1 6))
  rw [if_neg (by rw [p1]; decide), p3, if_neg (by decide), if_pos rfl]
  refine congrArg (aZ _) (funext fun q => ?_)
  by_cases hq : q < nx (M.1 6)
  · rw [if_pos hq, if_pos hq, put_57 M y 4 (nI t) hq]
    unfold ptV
    rw [if_neg (show ¬ (4 : Int32) = 3 by decide), nx_nI ht]
    cases mayB M q t <;> rfl
  · rw [if_neg hq, if_neg hq]
theorem put_0 {M : MS} {what n : Int32} (h : putOk M what n = true) (hw : what < 1 ∨ 4 < what) : what = 0 := by
  refine Decidable.byContradiction (fun z => ?_)
  unfold putOk at h
  rw [if_neg z, if_neg (sw_ne hw (by decide)), if_neg (sw_ne hw (by decide)), if_neg (sw_ne hw (by decide)), if_neg (sw_ne hw (by decide))] at h
  cases h
end RA35
section K35
variable (l : Launch) (G : WG) {hp h : Hp} {A : AD} {M : MS}
theorem k_put (tr what n : Int32) (hR : RH G hp A M h) (hb : bnd M) (hT : tidy M) (hz0 : ∀ i, i < 6 → nx (M.2.1 56 i) ≤ 20) : SpV l G mX11_put [.ref (A.1 0 0), .int tr, .int what, .int n] h (fun r h' => r = .int (f_put M tr what n).1 ∧ ∃ A', RH G hp A' (f_put M tr what n).2 h' ∧ A'.1 0 0 = A.1 0 0) := by
  refine Sp.intro (lv := [_, _, _, _, _]) (by decide) rfl (Nat.le_of_ble_eq_true rfl) ?_
  refine wp_widen (rc' := 1) (rs' := 20) (Nat.le_refl _) (Nat.le_refl _) ?_
  have hb9 := hb
  unfold bnd at hb9
  refine wp_aload_n (pc := 0) dX11_put_0 rfl rfl ?_
  refine wp_iload_n (pc := 1) dX11_put_1 rfl rfl ?_
  refine wc_VP (pc := 2) (μ2 := mX11_trayAt) (rc := 1) (rs := 20) [_] dX11_put_2 rfl hR.bd rfl cv_X11_321_12 rfl ⟨(Nat.le_of_ble_eq_true rfl), (Nat.le_of_ble_eq_true rfl)⟩ (Nat.le_of_ble_eq_true rfl) (c_trayAt l G _ hR hb) ?_
  refine wp_astoreQ (pc := 5) (lv' := [_, _, _, _, _]) dX11_put_5 (Nat.le_of_ble_eq_true rfl) rfl rfl ?_
  refine wp_aloadQ (pc := 7) dX11_put_7 rfl ?_
  refine wp_ifnull (pc := 9) (tgt := 21) dX11_put_9 (by decide) (fun c9 => ?_) (fun a9 c9 => ?_)
  · skip
    refine wp_aload_n (pc := 21) dX11_put_21 rfl rfl ?_
    refine wp_iconst (pc := 22) (v := 1) dX11_put_22 (by decide) ?_
    refine wc_VV (pc := 23) (μ2 := mX11_refuse) (rc := 1) (rs := 20) [_] dX11_put_23 rfl hR.bd rfl cv_X11_328_12 rfl ⟨(Nat.le_of_ble_eq_true rfl), (Nat.le_of_ble_eq_true rfl)⟩ (Nat.le_of_ble_eq_true rfl) (c_refuse l G _ hR) (fun r h q => ?_)
    obtain ⟨rfl, hR⟩ := q
    exact wp_iret (pc := 26) dX11_put_26 rfl ⟨_, rfl, by unfold f_put; rw [if_pos (by rw [fin5]; exact oAt_n c9)], A, by unfold f_put; rw [if_pos (by rw [fin5]; exact oAt_n c9)]; exact hR, rfl⟩
  · obtain ⟨y, hy, rfl, rfl⟩ := oAt_s c9 (by decide)
    rw [oAt_t hy (by decide)]
    have i1 := isIx_nI hy (show 6 < 2 ^ 31 by decide)
    have e1 : nx (nI y) = y := nx_nI (by omega)
    have hz : ∀ i, i < 6 → i ≠ y → nx (M.2.1 56 i) ≤ 20 := fun i hi _ => hz0 i hi
    refine wp_aload_n (pc := 12) dX11_put_12 rfl rfl ?_
    refine wp_iload_n (pc := 13) dX11_put_13 rfl rfl ?_
    refine wp_iload_n (pc := 14) dX11_put_14 rfl rfl ?_
    refine wc_VP (pc := 15) (μ2 := mX11_canBePut) (rc := 1) (rs := 20) [_, _] dX11_put_15 rfl hR.bd rfl cv_X11_325_12 rfl ⟨(Nat.le_of_ble_eq_true rfl), (Nat.le_of_ble_eq_true rfl)⟩ (Nat.le_of_ble_eq_true rfl) (c_canBePut l G _ _ hR hb) ?_
    refine wp_ifB_ne (pc := 18) (tgt := 27) dX11_put_18 (by decide) (fun c18 => ?_) (fun c18 => ?_)
    · skip
      refine wp_aload (pc := 27) dX11_put_27 rfl ?_
      refine wc_VN (pc := 29) (μ2 := mX8_clear) (rc := 1) (rs := 20) [] dX11_put_29 rfl (hR.tr hy) rfl cv_X11_331_9 rfl ⟨(Nat.le_of_ble_eq_true rfl), (Nat.le_of_ble_eq_true rfl)⟩ (Nat.le_of_ble_eq_true rfl) (c_clear l G _ (hR.tr hy)) (fun h q => ?_)
      obtain ⟨cl1, cl2⟩ := q
      obtain ⟨A1, hA1⟩ : ∃ A1, A1 = aTr A y (A.1 17 y) := ⟨_, rfl⟩
      have n0 : ¬ ((sI M 54 y 0).2.1 54 y = 3 ∨ (sI M 54 y 0).2.1 54 y = 4) := by rw [sI_at, if_pos ⟨rfl, rfl⟩]; decide
      have hR : RH G hp A1 (sI M 54 y 0) h := by
        rw [hA1]
        refine RH.putT hR hT hy rfl (fun f i hf => ?_) (fun _ _ _ => rfl) hz (fun z => absurd z n0) ?_ cl2 (fun a x hx => ⟨hx, fun z => absurd z n0⟩) hR.2.2.2.1
        · rw [sI_at, if_neg (fun z => hf.elim (fun q => q (by rw [z.1]; decide)) (fun q => q z.2))]
        · have e54 : (sI M 54 y 0).2.1 54 y = 0 := by rw [sI_at, if_pos ⟨rfl, rfl⟩]
          rw [cl1]; unfold cTr; rw [e54]; rfl
      have hAk : ∀ k i, k ≠ 17 → A1.1 k i = A.1 k i := fun k i hk => by rw [hA1]; show (if k = 17 ∧ i = y then _ else A.1 k i) = _; rw [if_neg (fun z => hk z.1)]
      have e0 := hAk 0 0 (by decide)
      have e16 := hAk 16 y (by decide)
      rw [← e0, ← e16]
      have hb1 : bnd (sI M 54 y 0) := bnd_of rfl rfl rfl rfl rfl hb
      have hT1 : tidy (sI M 54 y 0) := by
        refine ⟨hT.1, fun q hq => ?_⟩
        by_cases e : q = y
        · subst e; rw [sI_at, if_pos ⟨rfl, rfl⟩]; exact ⟨fun z => absurd z (by decide), fun z => absurd z (by decide)⟩
        · rw [sI_at, if_neg (fun z => e z.2)]; exact hT.2 q hq
      have hz1 : ∀ i, i < 6 → i ≠ y → nx ((sI M 54 y 0).2.1 56 i) ≤ 20 := fun i hi hn => hz i hi hn
      have tr0 : h (A1.1 16 y) = some (oB 9 [.null, .null, .null, .null]) := hR.tr0 hy (by rw [sI_at, if_pos ⟨rfl, rfl⟩])
      refine wp_iload_n (pc := 32) dX11_put_32 rfl rfl ?_
      refine wp_tsw_1_4 (pc := 33) dX11_put_33 (t0 := 64) (t1 := 77) (t2 := 90) (t3 := 103) (td := 116) (by decide) (by decide) (by decide) (by decide) (by decide) (fun c33 => ?_) (fun c33 => ?_) (fun c33 => ?_) (fun c33 => ?_) (fun c33 => ?_)
      · subst c33
        obtain ⟨t, ht, rfl⟩ := isIx_t (show isIx n (nx (M.1 11)) = true from by simpa [putOk] using c18) (by omega)
        have nt : nx (nI t) = t := nx_nI (by omega)
        have hst : f_put M (nI y) 1 (nI t) = (1, sS (putR M y 1 (nI t) 0) 58 0) := by unfold f_put; rw [if_neg (by rw [fin5, i1]; decide), if_neg (by rw [c18]; decide), e1]; rfl
        refine wp_aload (pc := 64) dX11_put_64 rfl ?_
        refine wp_aload_n (pc := 66) dX11_put_66 rfl rfl ?_
        refine wp_iload_n (pc := 67) dX11_put_67 rfl rfl ?_
        refine wc_VP (pc := 68) (μ2 := mX11_thingAt) (rc := 1) (rs := 20) [_] dX11_put_68 rfl hR.bd rfl cv_X11_156_12 rfl ⟨(Nat.le_of_ble_eq_true rfl), (Nat.le_of_ble_eq_true rfl)⟩ (Nat.le_of_ble_eq_true rfl) (c_thingAt (M := sI M 54 y 0) l G _ hR hb1) ?_
        rw [oAt_t (show t < nx ((sI M 54 y 0).1 11) from ht) (show nx (M.1 11) < 2 ^ 31 by omega)]
        refine wp_putC (pc := 71) dX11_put_71 fl_X11_334_9 tr0 (Or.inl rfl) (Nat.le_of_ble_eq_true rfl) rfl rfl rfl (fun h hq1 hq2 => ?_)
        obtain ⟨A2, hR, e20⟩ := put_rh (hp := hp) (what := 1) (n := nI t) (r := 0) (z := 0) hR hT1 hy hz1 (by decide) (fun z => absurd z (by decide)) (by rw [hq1, cTr_1 M y 0 (by omega)]; rfl) hq2 (fun a x hx => ⟨hx, fun z => absurd z (by decide)⟩) hR.2.2.2.1
        rw [← e20]
        refine wp_goto (pc := 74) (tgt := 116) dX11_put_74 (by decide) ?_
        refine wp_aload_n (pc := 116) dX11_put_116 rfl rfl ?_
        refine wp_iconst (pc := 117) (v := 0) dX11_put_117 (by decide) ?_
        obtain ⟨M2, hM2⟩ : ∃ M2 : MS, RH G hp A2 M2 h ∧ f_put M (nI y) _ _ = (1, sS M2 58 0) := ⟨_, hR, hst⟩
        obtain ⟨hR, hst⟩ := hM2
        refine wp_putC (pc := 118) dX11_put_118 fl_X11_67_12 hR.bd (Or.inl rfl) (Nat.le_of_ble_eq_true rfl) rfl rfl rfl (fun h hq1 hq2 => ?_)
        have hR := hR.k0 (M' := sS M2 58 0) rfl rfl rfl rfl rfl rfl hq1 hq2
        refine wp_iconst (pc := 121) (v := 1) dX11_put_121 (by decide) ?_
        exact wp_iret (pc := 122) dX11_put_122 rfl ⟨_, rfl, by rw [hst], A2, by rw [hst]; exact hR, rfl⟩
      · subst c33
        obtain ⟨t, ht, rfl⟩ := isIx_t (show isIx n (nx (M.1 35)) = true from by simpa [putOk] using c18) (by omega)
        have nt : nx (nI t) = t := nx_nI (by omega)
        have hst : f_put M (nI y) 2 (nI t) = (1, sS (putR M y 2 (nI t) 0) 58 0) := by unfold f_put; rw [if_neg (by rw [fin5, i1]; decide), if_neg (by rw [c18]; decide), e1]; rfl
        refine wp_aload (pc := 77) dX11_put_77 rfl ?_
        refine wp_aload_n (pc := 79) dX11_put_79 rfl rfl ?_
        refine wp_iload_n (pc := 80) dX11_put_80 rfl rfl ?_
        refine wc_VP (pc := 81) (μ2 := mX11_letterAt) (rc := 1) (rs := 20) [_] dX11_put_81 rfl hR.bd rfl cv_X11_205_12 rfl ⟨(Nat.le_of_ble_eq_true rfl), (Nat.le_of_ble_eq_true rfl)⟩ (Nat.le_of_ble_eq_true rfl) (c_letterAt (M := sI M 54 y 0) l G _ hR hb1) ?_
        rw [oAt_t (show t < nx ((sI M 54 y 0).1 35) from ht) (show nx (M.1 35) < 2 ^ 31 by omega)]
        refine wp_putC (pc := 84) dX11_put_84 fl_X11_337_9 tr0 (Or.inl rfl) (Nat.le_of_ble_eq_true rfl) rfl rfl rfl (fun h hq1 hq2 => ?_)
        obtain ⟨A2, hR, e20⟩ := put_rh (hp := hp) (what := 2) (n := nI t) (r := 0) (z := 0) hR hT1 hy hz1 (by decide) (fun z => absurd z (by decide)) (by rw [hq1, cTr_2 M y 0 (by omega)]; rfl) hq2 (fun a x hx => ⟨hx, fun z => absurd z (by decide)⟩) hR.2.2.2.1
        rw [← e20]
        refine wp_goto (pc := 87) (tgt := 116) dX11_put_87 (by decide) ?_
        refine wp_aload_n (pc := 116) dX11_put_116 rfl rfl ?_
        refine wp_iconst (pc := 117) (v := 0) dX11_put_117 (by decide) ?_
        obtain ⟨M2, hM2⟩ : ∃ M2 : MS, RH G hp A2 M2 h ∧ f_put M (nI y) _ _ = (1, sS M2 58 0) := ⟨_, hR, hst⟩
        obtain ⟨hR, hst⟩ := hM2
        refine wp_putC (pc := 118) dX11_put_118 fl_X11_67_12 hR.bd (Or.inl rfl) (Nat.le_of_ble_eq_true rfl) rfl rfl rfl (fun h hq1 hq2 => ?_)
        have hR := hR.k0 (M' := sS M2 58 0) rfl rfl rfl rfl rfl rfl hq1 hq2
        refine wp_iconst (pc := 121) (v := 1) dX11_put_121 (by decide) ?_
        exact wp_iret (pc := 122) dX11_put_122 rfl ⟨_, rfl, by rw [hst], A2, by rw [hst]; exact hR, rfl⟩
      · subst c33
        obtain ⟨t, ht, rfl⟩ := isIx_t (show isIx n (nx (M.1 11)) = true from by simpa [putOk] using c18) (by omega)
        have nt : nx (nI t) = t := nx_nI (by omega)
        have hst : f_put M (nI y) 3 (nI t) = (1, sS (putR M y 3 (nI t) (nx (M.2.1 21 t))) 58 0) := by unfold f_put; rw [if_neg (by rw [fin5, i1]; decide), if_neg (by rw [c18]; decide), e1]; rw [if_pos rfl, nt]
        refine wp_aload (pc := 90) dX11_put_90 rfl ?_
        refine wp_aload_n (pc := 92) dX11_put_92 rfl rfl ?_
        refine wp_iload_n (pc := 93) dX11_put_93 rfl rfl ?_
        refine wc_VV (pc := 94) (μ2 := mX11_numbersOf) (rc := 0) (rs := 0) [_] dX11_put_94 rfl hR.bd rfl cv_X11_341_12 rfl ⟨(Nat.le_of_ble_eq_true rfl), (Nat.le_of_ble_eq_true rfl)⟩ (Nat.le_of_ble_eq_true rfl) (c_numbersOf (M := sI M 54 y 0) l G hR hb1 hT1 ht) (fun r h q => ?_)
        obtain ⟨a, rfl, an, ac, af⟩ := q
        have tr0 := (af _ (fun z => by rw [← z, tr0] at an; cases an)).trans tr0
        have hpn := hR.hpn an
        have hg0 := hR.2.2.2.1
        have hR := hR.fresh an ac af
        refine wp_putC (pc := 97) dX11_put_97 fl_X11_345_9 tr0 (Or.inl rfl) (Nat.le_of_ble_eq_true rfl) rfl rfl rfl (fun h hq1 hq2 => ?_)
        obtain ⟨A2, hR, e20⟩ := put_rh (hp := hp) (what := 3) (n := nI t) (r := a) (z := nx (M.2.1 21 t)) hR hT1 hy hz1 (by have := hT.1 t ht; omega) (fun _ => by rw [up_s, cRw_3 M y (by omega)]; rfl) (by rw [hq1, cTr_3 M y a _ _]; rfl) hq2 (fun b x hx => ⟨(hhp_u hpn b x hx).1, fun _ z => by rw [z, hpn] at hx; cases hx⟩) hg0
        rw [← e20]
        refine wp_goto (pc := 100) (tgt := 116) dX11_put_100 (by decide) ?_
        refine wp_aload_n (pc := 116) dX11_put_116 rfl rfl ?_
        refine wp_iconst (pc := 117) (v := 0) dX11_put_117 (by decide) ?_
        obtain ⟨M2, hM2⟩ : ∃ M2 : MS, RH G hp A2 M2 h ∧ f_put M (nI y) _ _ = (1, sS M2 58 0) := ⟨_, hR, hst⟩
        obtain ⟨hR, hst⟩ := hM2
        refine wp_putC (pc := 118) dX11_put_118 fl_X11_67_12 hR.bd (Or.inl rfl) (Nat.le_of_ble_eq_true rfl) rfl rfl rfl (fun h hq1 hq2 => ?_)
        have hR := hR.k0 (M' := sS M2 58 0) rfl rfl rfl rfl rfl rfl hq1 hq2
        refine wp_iconst (pc := 121) (v := 1) dX11_put_121 (by decide) ?_
        exact wp_iret (pc := 122) dX11_put_122 rfl ⟨_, rfl, by rw [hst], A2, by rw [hst]; exact hR, rfl⟩
      · subst c33
        obtain ⟨t, ht, rfl⟩ := isIx_t (show isIx n (nx (M.1 11)) = true from by simpa [putOk] using c18) (by omega)
        have nt : nx (nI t) = t := nx_nI (by omega)
        have hst : f_put M (nI y) 4 (nI t) = (1, sS (putR M y 4 (nI t) (nx (M.1 6))) 58 0) := by unfold f_put; rw [if_neg (by rw [fin5, i1]; decide), if_neg (by rw [c18]; decide), e1]; rw [if_neg (by decide), if_pos rfl]
        refine wp_aload (pc := 103) dX11_put_103 rfl ?_
        refine wp_aload_n (pc := 105) dX11_put_105 rfl rfl ?_
        refine wp_iload_n (pc := 106) dX11_put_106 rfl rfl ?_
        refine wc_VV (pc := 107) (μ2 := mX11_truthsOf) (rc := 0) (rs := 0) [_] dX11_put_107 rfl hR.bd rfl cv_X11_349_12 rfl ⟨(Nat.le_of_ble_eq_true rfl), (Nat.le_of_ble_eq_true rfl)⟩ (Nat.le_of_ble_eq_true rfl) (c_truthsOf (M := sI M 54 y 0) l G hR hb1 ht) (fun r h q => ?_)
        obtain ⟨a, rfl, an, ac, af⟩ := q
        have tr0 := (af _ (fun z => by rw [← z, tr0] at an; cases an)).trans tr0
        have hpn := hR.hpn an
        have hg0 := hR.2.2.2.1
        have hR := hR.fresh an ac af
        refine wp_putC (pc := 110) dX11_put_110 fl_X11_353_9 tr0 (Or.inl rfl) (Nat.le_of_ble_eq_true rfl) rfl rfl rfl (fun h hq1 hq2 => ?_)
        obtain ⟨A2, hR, e20⟩ := put_rh (hp := hp) (what := 4) (n := nI t) (r := a) (z := nx (M.1 6)) hR hT1 hy hz1 (by omega) (fun _ => by rw [up_s, cRw_4 M y (by omega)]; rfl) (by rw [hq1, cTr_4 M y a _ _]; rfl) hq2 (fun b x hx => ⟨(hhp_u hpn b x hx).1, fun _ z => by rw [z, hpn] at hx; cases hx⟩) hg0
        rw [← e20]
        refine wp_goto (pc := 113) (tgt := 116) dX11_put_113 (by decide) ?_
        refine wp_aload_n (pc := 116) dX11_put_116 rfl rfl ?_
        refine wp_iconst (pc := 117) (v := 0) dX11_put_117 (by decide) ?_
        obtain ⟨M2, hM2⟩ : ∃ M2 : MS, RH G hp A2 M2 h ∧ f_put M (nI y) _ _ = (1, sS M2 58 0) := ⟨_, hR, hst⟩
        obtain ⟨hR, hst⟩ := hM2
        refine wp_putC (pc := 118) dX11_put_118 fl_X11_67_12 hR.bd (Or.inl rfl) (Nat.le_of_ble_eq_true rfl) rfl rfl rfl (fun h hq1 hq2 => ?_)
        have hR := hR.k0 (M' := sS M2 58 0) rfl rfl rfl rfl rfl rfl hq1 hq2
        refine wp_iconst (pc := 121) (v := 1) dX11_put_121 (by decide) ?_
        exact wp_iret (pc := 122) dX11_put_122 rfl ⟨_, rfl, by rw [hst], A2, by rw [hst]; exact hR, rfl⟩
      · have w0 := put_0 c18 c33
        subst w0
        have hst : f_put M (nI y) 0 n = (1, sS (putR M y 0 n 0) 58 0) := by unfold f_put; rw [if_neg (by rw [fin5, i1]; decide), if_neg (by rw [c18]; decide), e1]; rfl
        obtain ⟨A2, hR, e20⟩ := put_rh (hp := hp) (what := 0) (n := n) (r := 0) (z := 0) hR hT1 hy hz1 (by decide) (fun z => absurd z (by decide)) (by rw [tr0, cTr_0]) (fun _ _ => rfl) (fun a x hx => ⟨hx, fun z => absurd z (by decide)⟩) hR.2.2.2.1
        rw [← e20]
        refine wp_aload_n (pc := 116) dX11_put_116 rfl rfl ?_
        refine wp_iconst (pc := 117) (v := 0) dX11_put_117 (by decide) ?_
        obtain ⟨M2, hM2⟩ : ∃ M2 : MS, RH G hp A2 M2 h ∧ f_put M (nI y) _ _ = (1, sS M2 58 0) := ⟨_, hR, hst⟩
        obtain ⟨hR, hst⟩ := hM2
        refine wp_putC (pc := 118) dX11_put_118 fl_X11_67_12 hR.bd (Or.inl rfl) (Nat.le_of_ble_eq_true rfl) rfl rfl rfl (fun h hq1 hq2 => ?_)
        have hR := hR.k0 (M' := sS M2 58 0) rfl rfl rfl rfl rfl rfl hq1 hq2
        refine wp_iconst (pc := 121) (v := 1) dX11_put_121 (by decide) ?_
        exact wp_iret (pc := 122) dX11_put_122 rfl ⟨_, rfl, by rw [hst], A2, by rw [hst]; exact hR, rfl⟩
    · skip
      refine wp_aload_n (pc := 21) dX11_put_21 rfl rfl ?_
      refine wp_iconst (pc := 22) (v := 1) dX11_put_22 (by decide) ?_
      refine wc_VV (pc := 23) (μ2 := mX11_refuse) (rc := 1) (rs := 20) [_] dX11_put_23 rfl hR.bd rfl cv_X11_328_12 rfl ⟨(Nat.le_of_ble_eq_true rfl), (Nat.le_of_ble_eq_true rfl)⟩ (Nat.le_of_ble_eq_true rfl) (c_refuse l G _ hR) (fun r h q => ?_)
      obtain ⟨rfl, hR⟩ := q
      exact wp_iret (pc := 26) dX11_put_26 rfl ⟨_, rfl, by unfold f_put; rw [if_neg (by rw [fin5, i1]; decide), if_pos c18], A, by unfold f_put; rw [if_neg (by rw [fin5, i1]; decide), if_pos c18]; exact hR, rfl⟩
end K35
