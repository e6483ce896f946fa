/-! ===== the class: its small methods ===== -/
section CB
variable {l : Launch} {G : WG} {μ : MI} {Z : WZ} {pc : Nat} {lv : List (Option Value)} {st st0 : List Value} {h : Hp} {rc rs : Nat}
def isT (ci : Nat) : Prop := ci = 8 ∨ ci = 1 ∨ ci = 7 ∨ ci = 10 ∨ ci = 5
theorem wp_getT {a k idx : Nat} {κ : Int32} {fs : List Value} {v : Value} (hd : decode (mC μ) pc = .ok (.getfield idx, 3)) (ft : ∀ ci, isT ci → FL (mY μ).cls idx k ci) (hc : h a = some (oB (tci κ) fs)) (hv : fs[k]? = some v) (kk : wp l G μ Z (pc + 3) lv (v :: st) h rc rs) : wp l G μ Z pc lv (.ref a :: st) h rc rs := wp_get hd (ft _ (tci_lt κ)) hc hv kk
theorem wc_TP {μ2 : MI} {idx n b : Nat} {κ : Int32} {fs : List Value} {v : Value} (As : List Value) (hd : decode (mC μ) pc = .ok (.invokevirtual idx, 3)) (hst : st0 = As.reverse ++ .ref b :: st) (hc : h b = some (oB (tci κ) fs)) (ct : ∀ ci, isT ci → ∃ q, vwCl[ci]? = some q ∧ CV (mY μ).cls idx q.1 μ2 n) (hn9 : As.length = n) (hf : fitM μ2 μ) (hw : (st.map fun v => v.category).sum ≤ 8) (hS : SpP l G μ2 (.ref b :: As) h v)
    (kk : wp l G μ Z (pc + 3) lv (v :: st) h rc rs) : wp l G μ Z pc lv st0 h (rc + (mR μ2).cells) (rs + (mR μ2).slots) := by
  obtain ⟨q, hq, cv⟩ := ct _ (tci_lt κ)
  exact wc_VP As hd hst hc hq cv hn9 hf hw hS kk
theorem wc_TV {μ2 : MI} {idx n b : Nat} {κ : Int32} {fs : List Value} {P : Value → Hp → Prop} (As : List Value) (hd : decode (mC μ) pc = .ok (.invokevirtual idx, 3)) (hst : st0 = As.reverse ++ .ref b :: st) (hc : h b = some (oB (tci κ) fs)) (ct : ∀ ci, isT ci → ∃ q, vwCl[ci]? = some q ∧ CV (mY μ).cls idx q.1 μ2 n) (hn9 : As.length = n) (hf : fitM μ2 μ) (hw : (st.map fun v => v.category).sum ≤ 8) (hS : SpV l G μ2 (.ref b :: As) h P)
    (kk : ∀ (r : Value) (h' : Hp), P r h' → wp l G μ Z (pc + 3) lv (r :: st) h' rc rs) : wp l G μ Z pc lv st0 h (rc + (mR μ2).cells) (rs + (mR μ2).slots) := by
  obtain ⟨q, hq, cv⟩ := ct _ (tci_lt κ)
  exact wc_VV As hd hst hc hq cv hn9 hf hw hS kk
theorem wc_TN {μ2 : MI} {idx n b : Nat} {κ : Int32} {fs : List Value} {P : Hp → Prop} (As : List Value) (hd : decode (mC μ) pc = .ok (.invokevirtual idx, 3)) (hst : st0 = As.reverse ++ .ref b :: st) (hc : h b = some (oB (tci κ) fs)) (ct : ∀ ci, isT ci → ∃ q, vwCl[ci]? = some q ∧ CV (mY μ).cls idx q.1 μ2 n) (hn9 : As.length = n) (hf : fitM μ2 μ) (hw : (st.map fun v => v.category).sum ≤ 8) (hS : SpN l G μ2 (.ref b :: As) h P)
    (kk : ∀ (h' : Hp), P h' → wp l G μ Z (pc + 3) lv st h' rc rs) : wp l G μ Z pc lv st0 h (rc + (mR μ2).cells) (rs + (mR μ2).slots) := by
  obtain ⟨q, hq, cv⟩ := ct _ (tci_lt κ)
  exact wc_VN As hd hst hc hq cv hn9 hf hw hS kk
end CB
theorem ft_X4_12 : ∀ ci, isT ci → FL RX4 12 3 ci := by
  rintro ci (rfl | rfl | rfl | rfl | rfl)
  · exact fl_X4_12_8
  · exact fl_X4_12_1
  · exact fl_X4_12_7
  · exact fl_X4_12_10
  · exact fl_X4_12_5
theorem ft_X4_18 : ∀ ci, isT ci → FL RX4 18 4 ci := by
  rintro ci (rfl | rfl | rfl | rfl | rfl)
  · exact fl_X4_18_8
  · exact fl_X4_18_1
  · exact fl_X4_18_7
  · exact fl_X4_18_10
  · exact fl_X4_18_5
theorem ft_X4_22 : ∀ ci, isT ci → FL RX4 22 0 ci := by
  rintro ci (rfl | rfl | rfl | rfl | rfl)
  · exact fl_X4_22_8
  · exact fl_X4_22_1
  · exact fl_X4_22_7
  · exact fl_X4_22_10
  · exact fl_X4_22_5
theorem ft_X4_26 : ∀ ci, isT ci → FL RX4 26 1 ci := by
  rintro ci (rfl | rfl | rfl | rfl | rfl)
  · exact fl_X4_26_8
  · exact fl_X4_26_1
  · exact fl_X4_26_7
  · exact fl_X4_26_10
  · exact fl_X4_26_5
theorem ft_X4_29 : ∀ ci, isT ci → FL RX4 29 2 ci := by
  rintro ci (rfl | rfl | rfl | rfl | rfl)
  · exact fl_X4_29_8
  · exact fl_X4_29_1
  · exact fl_X4_29_7
  · exact fl_X4_29_10
  · exact fl_X4_29_5
theorem ft_X11_254 : ∀ ci, isT ci → FL RX11 254 3 ci := by
  rintro ci (rfl | rfl | rfl | rfl | rfl)
  · exact fl_X11_254_8
  · exact fl_X11_254_1
  · exact fl_X11_254_7
  · exact fl_X11_254_10
  · exact fl_X11_254_5
theorem ft_X11_270 : ∀ ci, isT ci → FL RX11 270 0 ci := by
  rintro ci (rfl | rfl | rfl | rfl | rfl)
  · exact fl_X11_270_8
  · exact fl_X11_270_1
  · exact fl_X11_270_7
  · exact fl_X11_270_10
  · exact fl_X11_270_5
theorem ft_X11_271 : ∀ ci, isT ci → FL RX11 271 1 ci := by
  rintro ci (rfl | rfl | rfl | rfl | rfl)
  · exact fl_X11_271_8
  · exact fl_X11_271_1
  · exact fl_X11_271_7
  · exact fl_X11_271_10
  · exact fl_X11_271_5
theorem ft_X11_274 : ∀ ci, isT ci → FL RX11 274 2 ci := by
  rintro ci (rfl | rfl | rfl | rfl | rfl)
  · exact fl_X11_274_8
  · exact fl_X11_274_1
  · exact fl_X11_274_7
  · exact fl_X11_274_10
  · exact fl_X11_274_5
theorem ct_X4_55 : ∀ ci, isT ci → ∃ q, vwCl[ci]? = some q ∧ CV RX4 55 q.1 mX4_grantOf 1 := by
  rintro ci (rfl | rfl | rfl | rfl | rfl)
  · exact ⟨_, rfl, cv_X4_55_8⟩
  · exact ⟨_, rfl, cv_X4_55_1⟩
  · exact ⟨_, rfl, cv_X4_55_7⟩
  · exact ⟨_, rfl, cv_X4_55_10⟩
  · exact ⟨_, rfl, cv_X4_55_5⟩
theorem ct_X11_399 : ∀ ci, isT ci → ∃ q, vwCl[ci]? = some q ∧ CV RX11 399 q.1 mX4_prolongAll 1 := by
  rintro ci (rfl | rfl | rfl | rfl | rfl)
  · exact ⟨_, rfl, cv_X11_399_8⟩
  · exact ⟨_, rfl, cv_X11_399_1⟩
  · exact ⟨_, rfl, cv_X11_399_7⟩
  · exact ⟨_, rfl, cv_X11_399_10⟩
  · exact ⟨_, rfl, cv_X11_399_5⟩
theorem ct_X11_422 : ∀ ci, isT ci → ∃ q, vwCl[ci]? = some q ∧ CV RX11 422 q.1 mX4_dropEnded 1 := by
  rintro ci (rfl | rfl | rfl | rfl | rfl)
  · exact ⟨_, rfl, cv_X11_422_8⟩
  · exact ⟨_, rfl, cv_X11_422_1⟩
  · exact ⟨_, rfl, cv_X11_422_7⟩
  · exact ⟨_, rfl, cv_X11_422_10⟩
  · exact ⟨_, rfl, cv_X11_422_5⟩
theorem ct_X11_434 : ∀ ci, isT ci → ∃ q, vwCl[ci]? = some q ∧ CV RX11 434 q.1 mX4_grantOf 1 := by
  rintro ci (rfl | rfl | rfl | rfl | rfl)
  · exact ⟨_, rfl, cv_X11_434_8⟩
  · exact ⟨_, rfl, cv_X11_434_1⟩
  · exact ⟨_, rfl, cv_X11_434_7⟩
  · exact ⟨_, rfl, cv_X11_434_10⟩
  · exact ⟨_, rfl, cv_X11_434_5⟩
theorem ct_X11_473 : ∀ ci, isT ci → ∃ q, vwCl[ci]? = some q ∧ CV RX11 473 q.1 mX4_grantMeantBy 1 := by
  rintro ci (rfl | rfl | rfl | rfl | rfl)
  · exact ⟨_, rfl, cv_X11_473_8⟩
  · exact ⟨_, rfl, cv_X11_473_1⟩
  · exact ⟨_, rfl, cv_X11_473_7⟩
  · exact ⟨_, rfl, cv_X11_473_10⟩
  · exact ⟨_, rfl, cv_X11_473_5⟩
theorem ct_X11_480 : ∀ ci, isT ci → ∃ q, vwCl[ci]? = some q ∧ CV RX11 480 q.1 mX4_dropGrantOf 1 := by
  rintro ci (rfl | rfl | rfl | rfl | rfl)
  · exact ⟨_, rfl, cv_X11_480_8⟩
  · exact ⟨_, rfl, cv_X11_480_1⟩
  · exact ⟨_, rfl, cv_X11_480_7⟩
  · exact ⟨_, rfl, cv_X11_480_10⟩
  · exact ⟨_, rfl, cv_X11_480_5⟩
theorem ct_X11_488 : ∀ ci, isT ci → ∃ q, vwCl[ci]? = some q ∧ CV RX11 488 q.1 mX4_numberAnew 2 := by
  rintro ci (rfl | rfl | rfl | rfl | rfl)
  · exact ⟨_, rfl, cv_X11_488_8⟩
  · exact ⟨_, rfl, cv_X11_488_1⟩
  · exact ⟨_, rfl, cv_X11_488_7⟩
  · exact ⟨_, rfl, cv_X11_488_10⟩
  · exact ⟨_, rfl, cv_X11_488_5⟩
theorem wp_castT {l : Launch} {G : WG} {μ : MI} {Z : WZ} {pc : Nat} {lv : List (Option Value)} {st : List Value} {h : Hp} {rc rs idx b : Nat} {κ : Int32} {fs : List Value} (hd : decode (mC μ) pc = .ok (.checkcast idx, 3)) (hc : h b = some (oB (tci κ) fs)) (hk : ∀ ci, isT ci → castOK (mY μ).cls idx ci) (kk : wp l G μ Z (pc + 3) lv (.ref b :: st) h rc rs) : wp l G μ Z pc lv (.ref b :: st) h rc rs := wp_cast hd hc (hk _ (tci_lt κ)) kk
theorem cT_X11_161 : ∀ ci, isT ci → castOK RX11 161 ci := by
  rintro ci (rfl | rfl | rfl | rfl | rfl)
  · exact ca_X11_161_8
  · exact ca_X11_161_1
  · exact ca_X11_161_7
  · exact ca_X11_161_10
  · exact ca_X11_161_5
section RA
variable {G : WG} {hp h : Hp} {A : AD} {M : MS}
theorem RH.bd (hR : RH G hp A M h) : h (A.1 0 0) = some (oB 12 [.int (M.1 0), .ref (A.1 1 0), .ref (A.1 1 1), .ref (A.1 1 2), .ref (A.1 1 3), .ref (A.1 11 0), .ref (A.1 13 0), .ref (A.1 15 0), .int (M.1 46), .int (M.1 1), .int (M.1 27), .int (M.1 28), .int (M.1 49), .int (M.1 50), .int (M.1 51), .int (M.1 52), .int (M.1 53), .int (M.1 58)]) := hR.at (k := 0) (i := 0) rfl
theorem RH.kp (hR : RH G hp A M h) {i : Nat} (hv : i < nx (M.1 2)) : h (A.1 3 i) = some (oB 6 [.int (M.2.1 3 i), .int (M.2.1 4 i), .int (M.2.1 5 i)]) := hR.at (k := 3) hv
theorem RH.wk (hR : RH G hp A M h) {i : Nat} (hv : i < nx (M.1 6)) : h (A.1 4 i) = some (oB 11 [.int (M.2.1 7 i), .int (M.2.1 8 i), .int (M.2.1 10 i), .ref (A.1 5 i), .int (M.2.1 9 i)]) := hR.at (k := 4) hv
theorem RH.mr (hR : RH G hp A M h) {i : Nat} (hv : i < nx (M.1 6)) : h (A.1 5 i) = some (aR 4 20 (lstF 20 (fun t => A.1 6 (20 * i + t)))) := hR.at (k := 5) hv
theorem RH.mm (hR : RH G hp A M h) {i : Nat} (hv : i < 20 * nx (M.1 6)) : h (A.1 6 i) = some (oB 4 [.int (M.2.1 32 i), .int (M.2.1 29 i), .int (M.2.1 30 i), .int (M.2.1 31 i), .long (M.2.2 33 i), .long (M.2.2 34 i)]) := hR.at (k := 6) hv
theorem RH.th (hR : RH G hp A M h) {i : Nat} (hv : i < nx (M.1 11)) : h (A.1 7 i) = some (oB (tci (M.2.1 12 i)) ([.int (M.2.1 12 i), .int (M.2.1 13 i), .int (lng M i), .ref (A.1 1 (i + 4)), .long (M.2.2 18 i)] ++ tEx A M i)) := hR.at (k := 7) hv
theorem RH.gr (hR : RH G hp A M h) {i : Nat} (hv : i / 20 < nx (M.1 11) ∧ i % 20 < nx (M.2.1 21 (i / 20))) : h (A.1 8 i) = some (oB 2 [.int (M.2.1 22 i), .int (M.2.1 24 i), .int (M.2.1 23 i), .long (M.2.2 25 i), .long (M.2.2 26 i)]) := hR.at (k := 8) hv
theorem RH.lt (hR : RH G hp A M h) {i : Nat} (hv : i < nx (M.1 35)) : h (A.1 9 i) = some (oB 3 [.int (M.2.1 36 i), .int (M.2.1 37 i), .int (M.2.1 38 i), .int (M.2.1 39 i), .int (M.2.1 40 i), .int (M.2.1 41 i), .long (M.2.2 44 i), .int (M.2.1 43 i), .long (M.2.2 45 i), .int (M.2.1 42 i)]) := hR.at (k := 9) hv
theorem RH.qu (hR : RH G hp A M h) {i : Nat} (hv : i < nx (M.1 11) ∧ M.2.1 12 i = 4) : h (A.1 10 i) = some (aI 8 (fun q => if q < 8 then M.2.1 17 (8 * i + q) else 0)) := hR.at (k := 10) hv
theorem RH.go (hR : RH G hp A M h) : h (A.1 11 0) = some (aR 6 6 (lstF 6 (A.1 12))) := hR.at (k := 11) (i := 0) rfl
theorem RH.gs (hR : RH G hp A M h) {i : Nat} (hv : i < 6) : h (A.1 12 i) = some (aJ 20 (fun t => if t < 20 then M.2.2 47 (20 * i + t) else 0)) := hR.at (k := 12) hv
theorem RH.wo (hR : RH G hp A M h) : h (A.1 13 0) = some (aR 6 6 (lstF 6 (A.1 14))) := hR.at (k := 13) (i := 0) rfl
theorem RH.ws (hR : RH G hp A M h) {i : Nat} (hv : i < 6) : h (A.1 14 i) = some (aJ 20 (fun t => if t < 20 then M.2.2 48 (20 * i + t) else 0)) := hR.at (k := 14) hv
theorem RH.to (hR : RH G hp A M h) : h (A.1 15 0) = some (aR 5 6 (lstF 6 (A.1 16))) := hR.at (k := 15) (i := 0) rfl
theorem RH.tr (hR : RH G hp A M h) {i : Nat} (hv : i < 6) : h (A.1 16 i) = some (oB 9 [if M.2.1 54 i = 1 then .ref (A.1 7 (nx (M.2.1 55 i))) else .null, if M.2.1 54 i = 2 then .ref (A.1 9 (nx (M.2.1 55 i))) else .null, if M.2.1 54 i = 3 then .ref (A.1 17 i) else .null, if M.2.1 54 i = 4 then .ref (A.1 17 i) else .null]) := hR.at (k := 16) hv
theorem RH.rw (hR : RH G hp A M h) {i : Nat} (hv : i < 6 ∧ (M.2.1 54 i = 3 ∨ M.2.1 54 i = 4)) : h (A.1 17 i) = some (if M.2.1 54 i = 3 then aJ (nx (M.2.1 56 i)) (fun q => if q < nx (M.2.1 56 i) then M.2.2 57 (20 * i + q) else 0) else aZ (nx (M.2.1 56 i)) (fun q => if q < nx (M.2.1 56 i) then (if M.2.2 57 (20 * i + q) = 0 then 0 else 1) else 0)) := hR.at (k := 17) hv
theorem RH.gi (hR : RH G hp A M h) (hT : tidy M) {t i : Nat} (ht : t < nx (M.1 11)) (hi : i < nx (M.2.1 21 t)) : h (A.1 8 (20 * t + i)) = some (oB 2 [.int (M.2.1 22 (20 * t + i)), .int (M.2.1 24 (20 * t + i)), .int (M.2.1 23 (20 * t + i)), .long (M.2.2 25 (20 * t + i)), .long (M.2.2 26 (20 * t + i))]) := by
  have h20 := hT.1 t ht
  exact hR.gr (by rw [show (20 * t + i) / 20 = t by omega, show (20 * t + i) % 20 = i by omega]; exact ⟨ht, hi⟩)
end RA
def oAt (A : AD) (k : Nat) (v : Int32) (n : Nat) : Option Nat := if isIx v n = true then some (A.1 k (nx v)) else none
theorem oAt_t {A : AD} {k n j : Nat} (h : j < n) (hn : n < 2 ^ 31) : oAt A k (nI j) n = some (A.1 k j) := by unfold oAt; rw [if_pos (isIx_nI h hn), nx_nI (by omega)]
theorem oAt_f {A : AD} {k n : Nat} {v : Int32} (h : isIx v n = false) : oAt A k v n = none := by unfold oAt; rw [h]; rfl
/-- the counts' bounds -/
def bnd (M : MS) : Prop := nx (M.1 2) ≤ 5 ∧ nx (M.1 6) ≤ 20 ∧ nx (M.1 11) ≤ 20 ∧ nx (M.1 35) ≤ 400 ∧ nx (M.1 46) ≤ 6
section K1
variable (l : Launch) (G : WG) {hp h : Hp} {A : AD} {M : MS}
theorem c_isWithin (v lo hi : Int32) (h : Hp) : SpP l G mX11_isWithin [.int v, .int lo, .int hi] h (.int (bi (fin v lo hi))) := by
  refine Sp.intro (lv := [_, _, _]) (by decide) rfl (Nat.le_of_ble_eq_true rfl) ?_
  refine wp_widen (rc' := 0) (rs' := 0) (Nat.le_refl _) (Nat.le_refl _) ?_
  refine wp_iload_n (pc := 0) dX11_isWithin_0 rfl rfl ?_
  refine wp_iload_n (pc := 1) dX11_isWithin_1 rfl rfl ?_
  refine wp_icmp_lt (pc := 2) (tgt := 14) dX11_isWithin_2 (by decide) (fun c2 => ?_) (fun c2 => ?_)
  · skip
    refine wp_iconst (pc := 14) (v := 0) dX11_isWithin_14 (by decide) ?_
    exact wp_zret (pc := 15) dX11_isWithin_15 rfl (by decide) ⟨by simp [fin, bi, eq_true c2], rfl⟩
  · skip
    refine wp_iload_n (pc := 5) dX11_isWithin_5 rfl rfl ?_
    refine wp_iload_n (pc := 6) dX11_isWithin_6 rfl rfl ?_
    refine wp_icmp_gt (pc := 7) (tgt := 14) dX11_isWithin_7 (by decide) (fun c7 => ?_) (fun c7 => ?_)
    · skip
      refine wp_iconst (pc := 14) (v := 0) dX11_isWithin_14 (by decide) ?_
      exact wp_zret (pc := 15) dX11_isWithin_15 rfl (by decide) ⟨by simp [fin, bi, eq_false c2, eq_true c7], rfl⟩
    · skip
      refine wp_iconst (pc := 10) (v := 1) dX11_isWithin_10 (by decide) ?_
      refine wp_goto (pc := 11) (tgt := 15) dX11_isWithin_11 (by decide) ?_
      exact wp_zret (pc := 15) dX11_isWithin_15 rfl (by decide) ⟨by simp [fin, bi, eq_false c2, eq_false c7], rfl⟩
theorem c_isClock (b r : Int32) (hR : RH G hp A M h)  : SpP l G mX11_isClock [.ref (A.1 0 0), .int b, .int r] h (.int (bi (isClk M b r))) := by
  refine Sp.intro (lv := [_, _, _]) (by decide) rfl (Nat.le_of_ble_eq_true rfl) ?_
  refine wp_widen (rc' := 0) (rs' := 0) (Nat.le_refl _) (Nat.le_refl _) ?_
  refine wp_iload_n (pc := 0) dX11_isClock_0 rfl rfl ?_
  refine wp_ldc_w (pc := 1) dX11_isClock_1 w1_153 ?_
  refine wp_ldc_w (pc := 4) dX11_isClock_4 w1_154 ?_
  refine wc_SP (pc := 7) (μ2 := mX11_isWithin) (rc := 0) (rs := 0) [_, _, _] dX11_isClock_7 rfl cs_X11_103 rfl ⟨(Nat.le_of_ble_eq_true rfl), (Nat.le_of_ble_eq_true rfl)⟩ (Nat.le_of_ble_eq_true rfl) (c_isWithin l G _ _ _ _) ?_
  refine wp_ifB_eq (pc := 10) (tgt := 40) dX11_isClock_10 (by decide) (fun c10 => ?_) (fun c10 => ?_)
  · skip
    refine wp_iconst (pc := 40) (v := 0) dX11_isClock_40 (by decide) ?_
    exact wp_zret (pc := 41) dX11_isClock_41 rfl (by decide) ⟨by simp [isClk, bi, c10], rfl⟩
  · skip
    refine wp_iload_n (pc := 13) dX11_isClock_13 rfl rfl ?_
    refine wp_sipush (pc := 14) (v := 1000) dX11_isClock_14 (by decide) ?_
    refine wp_aload_n (pc := 17) dX11_isClock_17 rfl rfl ?_
    refine wp_get (pc := 18) dX11_isClock_18 fl_X11_79_12 hR.bd rfl ?_
    refine wp_isub (pc := 21) dX11_isClock_21 ?_
    refine wp_sipush (pc := 22) (v := 1000) dX11_isClock_22 (by decide) ?_
    refine wp_aload_n (pc := 25) dX11_isClock_25 rfl rfl ?_
    refine wp_get (pc := 26) dX11_isClock_26 fl_X11_79_12 hR.bd rfl ?_
    refine wp_iadd (pc := 29) dX11_isClock_29 ?_
    refine wc_SP (pc := 30) (μ2 := mX11_isWithin) (rc := 0) (rs := 0) [_, _, _] dX11_isClock_30 rfl cs_X11_103 rfl ⟨(Nat.le_of_ble_eq_true rfl), (Nat.le_of_ble_eq_true rfl)⟩ (Nat.le_of_ble_eq_true rfl) (c_isWithin l G _ _ _ _) ?_
    refine wp_ifB_eq (pc := 33) (tgt := 40) dX11_isClock_33 (by decide) (fun c33 => ?_) (fun c33 => ?_)
    · skip
      refine wp_iconst (pc := 40) (v := 0) dX11_isClock_40 (by decide) ?_
      exact wp_zret (pc := 41) dX11_isClock_41 rfl (by decide) ⟨by simp [isClk, bi, c10, c33], rfl⟩
    · skip
      refine wp_iconst (pc := 36) (v := 1) dX11_isClock_36 (by decide) ?_
      refine wp_goto (pc := 37) (tgt := 41) dX11_isClock_37 (by decide) ?_
      exact wp_zret (pc := 41) dX11_isClock_41 rfl (by decide) ⟨by simp [isClk, bi, c10, c33], rfl⟩
theorem c_keeperAt (v : Int32) (hR : RH G hp A M h) (hb : bnd M) : SpP l G mX11_keeperAt [.ref (A.1 0 0), .int v] h (va_rf (oAt A 3 v (nx (M.1 2)))) := by
  refine Sp.intro (lv := [_, _]) (by decide) rfl (Nat.le_of_ble_eq_true rfl) ?_
  refine wp_widen (rc' := 0) (rs' := 0) (Nat.le_refl _) (Nat.le_refl _) ?_
  have hb9 := hb
  unfold bnd at hb9
  refine wp_iload_n (pc := 0) dX11_keeperAt_0 rfl rfl ?_
  refine wp_iconst (pc := 1) (v := 0) dX11_keeperAt_1 (by decide) ?_
  refine wp_aload_n (pc := 2) dX11_keeperAt_2 rfl rfl ?_
  refine wp_get (pc := 3) dX11_keeperAt_3 fl_X11_10_12 hR.bd rfl ?_
  refine wc_VP (pc := 6) (μ2 := mJx4a65c_size_8abf5) (rc := 0) (rs := 0) [] dX11_keeperAt_6 rfl (hR.lst (ll := 0) (by omega)) rfl cv_X11_87_0 rfl ⟨(Nat.le_of_ble_eq_true rfl), (Nat.le_of_ble_eq_true rfl)⟩ (Nat.le_of_ble_eq_true rfl) (show SpP l G mJx4a65c_size_8abf5 [_] _ (.int (nI (nx (M.1 2)))) from j_size l G _ (hR.lst (ll := 0) (by omega))) ?_
  refine wp_iconst (pc := 9) (v := 1) dX11_keeperAt_9 (by decide) ?_
  refine wp_isub (pc := 10) dX11_keeperAt_10 ?_
  refine wc_SP (pc := 11) (μ2 := mX11_isWithin) (rc := 0) (rs := 0) [_, _, _] dX11_keeperAt_11 rfl cs_X11_103 rfl ⟨(Nat.le_of_ble_eq_true rfl), (Nat.le_of_ble_eq_true rfl)⟩ (Nat.le_of_ble_eq_true rfl) (c_isWithin l G _ _ _ _) ?_
  refine wp_ifB_eq (pc := 14) (tgt := 31) dX11_keeperAt_14 (by decide) (fun c14 => ?_) (fun c14 => ?_)
  · rw [fin_ix v (by omega)] at c14
    refine wp_null (pc := 31) dX11_keeperAt_31 ?_
    exact wp_aret (r := none) (pc := 32) dX11_keeperAt_32 rfl (Or.inl ⟨_, rfl⟩) ⟨by rw [oAt_f c14], rfl⟩
  · rw [fin_ix v (by omega)] at c14
    obtain ⟨j, hj, rfl⟩ := isIx_t c14 (by omega)
    refine wp_aload_n (pc := 17) dX11_keeperAt_17 rfl rfl ?_
    refine wp_get (pc := 18) dX11_keeperAt_18 fl_X11_10_12 hR.bd rfl ?_
    refine wp_iload_n (pc := 21) dX11_keeperAt_21 rfl rfl ?_
    refine wc_VP (pc := 22) (μ2 := mJx4a65c_get_915e3) (rc := 0) (rs := 0) [_] dX11_keeperAt_22 rfl (hR.lst (ll := 0) (by omega)) rfl cv_X11_383_0 rfl ⟨(Nat.le_of_ble_eq_true rfl), (Nat.le_of_ble_eq_true rfl)⟩ (Nat.le_of_ble_eq_true rfl) (j_get l G _ (hR.lst (ll := 0) (by omega)) (hR.dat (by omega)) hj (hR.cap (by omega)).1 (hR.cap (by omega)).2) ?_
    refine wp_cast (pc := 25) dX11_keeperAt_25 (hR.kp hj) ca_X11_91_6 ?_
    refine wp_goto (pc := 28) (tgt := 32) dX11_keeperAt_28 (by decide) ?_
    exact wp_aret (r := some (A.1 3 j)) (pc := 32) dX11_keeperAt_32 rfl (Or.inl ⟨_, rfl⟩) ⟨by rw [oAt_t hj (by omega)], rfl⟩
theorem c_workerAt (v : Int32) (hR : RH G hp A M h) (hb : bnd M) : SpP l G mX11_workerAt [.ref (A.1 0 0), .int v] h (va_rf (oAt A 4 v (nx (M.1 6)))) := by
  refine Sp.intro (lv := [_, _]) (by decide) rfl (Nat.le_of_ble_eq_true rfl) ?_
  refine wp_widen (rc' := 0) (rs' := 0) (Nat.le_refl _) (Nat.le_refl _) ?_
  have hb9 := hb
  unfold bnd at hb9
  refine wp_iload_n (pc := 0) dX11_workerAt_0 rfl rfl ?_
  refine wp_iconst (pc := 1) (v := 0) dX11_workerAt_1 (by decide) ?_
  refine wp_aload_n (pc := 2) dX11_workerAt_2 rfl rfl ?_
  refine wp_get (pc := 3) dX11_workerAt_3 fl_X11_16_12 hR.bd rfl ?_
  refine wc_VP (pc := 6) (μ2 := mJx4a65c_size_8abf5) (rc := 0) (rs := 0) [] dX11_workerAt_6 rfl (hR.lst (ll := 1) (by omega)) rfl cv_X11_87_0 rfl ⟨(Nat.le_of_ble_eq_true rfl), (Nat.le_of_ble_eq_true rfl)⟩ (Nat.le_of_ble_eq_true rfl) (show SpP l G mJx4a65c_size_8abf5 [_] _ (.int (nI (nx (M.1 6)))) from j_size l G _ (hR.lst (ll := 1) (by omega))) ?_
  refine wp_iconst (pc := 9) (v := 1) dX11_workerAt_9 (by decide) ?_
  refine wp_isub (pc := 10) dX11_workerAt_10 ?_
  refine wc_SP (pc := 11) (μ2 := mX11_isWithin) (rc := 0) (rs := 0) [_, _, _] dX11_workerAt_11 rfl cs_X11_103 rfl ⟨(Nat.le_of_ble_eq_true rfl), (Nat.le_of_ble_eq_true rfl)⟩ (Nat.le_of_ble_eq_true rfl) (c_isWithin l G _ _ _ _) ?_
  refine wp_ifB_eq (pc := 14) (tgt := 31) dX11_workerAt_14 (by decide) (fun c14 => ?_) (fun c14 => ?_)
  · rw [fin_ix v (by omega)] at c14
    refine wp_null (pc := 31) dX11_workerAt_31 ?_
    exact wp_aret (r := none) (pc := 32) dX11_workerAt_32 rfl (Or.inl ⟨_, rfl⟩) ⟨by rw [oAt_f c14], rfl⟩
  · rw [fin_ix v (by omega)] at c14
    obtain ⟨j, hj, rfl⟩ := isIx_t c14 (by omega)
    refine wp_aload_n (pc := 17) dX11_workerAt_17 rfl rfl ?_
    refine wp_get (pc := 18) dX11_workerAt_18 fl_X11_16_12 hR.bd rfl ?_
    refine wp_iload_n (pc := 21) dX11_workerAt_21 rfl rfl ?_
    refine wc_VP (pc := 22) (μ2 := mJx4a65c_get_915e3) (rc := 0) (rs := 0) [_] dX11_workerAt_22 rfl (hR.lst (ll := 1) (by omega)) rfl cv_X11_383_0 rfl ⟨(Nat.le_of_ble_eq_true rfl), (Nat.le_of_ble_eq_true rfl)⟩ (Nat.le_of_ble_eq_true rfl) (j_get l G _ (hR.lst (ll := 1) (by omega)) (hR.dat (by omega)) hj (hR.cap (by omega)).1 (hR.cap (by omega)).2) ?_
    refine wp_cast (pc := 25) dX11_workerAt_25 (hR.wk hj) ca_X11_100_11 ?_
    refine wp_goto (pc := 28) (tgt := 32) dX11_workerAt_28 (by decide) ?_
    exact wp_aret (r := some (A.1 4 j)) (pc := 32) dX11_workerAt_32 rfl (Or.inl ⟨_, rfl⟩) ⟨by rw [oAt_t hj (by omega)], rfl⟩
theorem c_letterAt (v : Int32) (hR : RH G hp A M h) (hb : bnd M) : SpP l G mX11_letterAt [.ref (A.1 0 0), .int v] h (va_rf (oAt A 9 v (nx (M.1 35)))) := by
  refine Sp.intro (lv := [_, _]) (by decide) rfl (Nat.le_of_ble_eq_true rfl) ?_
  refine wp_widen (rc' := 0) (rs' := 0) (Nat.le_refl _) (Nat.le_refl _) ?_
  have hb9 := hb
  unfold bnd at hb9
  refine wp_iload_n (pc := 0) dX11_letterAt_0 rfl rfl ?_
  refine wp_iconst (pc := 1) (v := 0) dX11_letterAt_1 (by decide) ?_
  refine wp_aload_n (pc := 2) dX11_letterAt_2 rfl rfl ?_
  refine wp_get (pc := 3) dX11_letterAt_3 fl_X11_22_12 hR.bd rfl ?_
  refine wc_VP (pc := 6) (μ2 := mJx4a65c_size_8abf5) (rc := 0) (rs := 0) [] dX11_letterAt_6 rfl (hR.lst (ll := 3) (by omega)) rfl cv_X11_87_0 rfl ⟨(Nat.le_of_ble_eq_true rfl), (Nat.le_of_ble_eq_true rfl)⟩ (Nat.le_of_ble_eq_true rfl) (show SpP l G mJx4a65c_size_8abf5 [_] _ (.int (nI (nx (M.1 35)))) from j_size l G _ (hR.lst (ll := 3) (by omega))) ?_
  refine wp_iconst (pc := 9) (v := 1) dX11_letterAt_9 (by decide) ?_
  refine wp_isub (pc := 10) dX11_letterAt_10 ?_
  refine wc_SP (pc := 11) (μ2 := mX11_isWithin) (rc := 0) (rs := 0) [_, _, _] dX11_letterAt_11 rfl cs_X11_103 rfl ⟨(Nat.le_of_ble_eq_true rfl), (Nat.le_of_ble_eq_true rfl)⟩ (Nat.le_of_ble_eq_true rfl) (c_isWithin l G _ _ _ _) ?_
  refine wp_ifB_eq (pc := 14) (tgt := 31) dX11_letterAt_14 (by decide) (fun c14 => ?_) (fun c14 => ?_)
  · rw [fin_ix v (by omega)] at c14
    refine wp_null (pc := 31) dX11_letterAt_31 ?_
    exact wp_aret (r := none) (pc := 32) dX11_letterAt_32 rfl (Or.inl ⟨_, rfl⟩) ⟨by rw [oAt_f c14], rfl⟩
  · rw [fin_ix v (by omega)] at c14
    obtain ⟨j, hj, rfl⟩ := isIx_t c14 (by omega)
    refine wp_aload_n (pc := 17) dX11_letterAt_17 rfl rfl ?_
    refine wp_get (pc := 18) dX11_letterAt_18 fl_X11_22_12 hR.bd rfl ?_
    refine wp_iload_n (pc := 21) dX11_letterAt_21 rfl rfl ?_
    refine wc_VP (pc := 22) (μ2 := mJx4a65c_get_915e3) (rc := 0) (rs := 0) [_] dX11_letterAt_22 rfl (hR.lst (ll := 3) (by omega)) rfl cv_X11_383_0 rfl ⟨(Nat.le_of_ble_eq_true rfl), (Nat.le_of_ble_eq_true rfl)⟩ (Nat.le_of_ble_eq_true rfl) (j_get l G _ (hR.lst (ll := 3) (by omega)) (hR.dat (by omega)) hj (hR.cap (by omega)).1 (hR.cap (by omega)).2) ?_
    refine wp_cast (pc := 25) dX11_letterAt_25 (hR.lt hj) ca_X11_169_3 ?_
    refine wp_goto (pc := 28) (tgt := 32) dX11_letterAt_28 (by decide) ?_
    exact wp_aret (r := some (A.1 9 j)) (pc := 32) dX11_letterAt_32 rfl (Or.inl ⟨_, rfl⟩) ⟨by rw [oAt_t hj (by omega)], rfl⟩
theorem c_thingAt (v : Int32) (hR : RH G hp A M h) (hb : bnd M) : SpP l G mX11_thingAt [.ref (A.1 0 0), .int v] h (va_rf (oAt A 7 v (nx (M.1 11)))) := by
  refine Sp.intro (lv := [_, _]) (by decide) rfl (Nat.le_of_ble_eq_true rfl) ?_
  refine wp_widen (rc' := 0) (rs' := 0) (Nat.le_refl _) (Nat.le_refl _) ?_
  have hb9 := hb
  unfold bnd at hb9
  refine wp_iload_n (pc := 0) dX11_thingAt_0 rfl rfl ?_
  refine wp_iconst (pc := 1) (v := 0) dX11_thingAt_1 (by decide) ?_
  refine wp_aload_n (pc := 2) dX11_thingAt_2 rfl rfl ?_
  refine wp_get (pc := 3) dX11_thingAt_3 fl_X11_19_12 hR.bd rfl ?_
  refine wc_VP (pc := 6) (μ2 := mJx4a65c_size_8abf5) (rc := 0) (rs := 0) [] dX11_thingAt_6 rfl (hR.lst (ll := 2) (by omega)) rfl cv_X11_87_0 rfl ⟨(Nat.le_of_ble_eq_true rfl), (Nat.le_of_ble_eq_true rfl)⟩ (Nat.le_of_ble_eq_true rfl) (show SpP l G mJx4a65c_size_8abf5 [_] _ (.int (nI (nx (M.1 11)))) from j_size l G _ (hR.lst (ll := 2) (by omega))) ?_
  refine wp_iconst (pc := 9) (v := 1) dX11_thingAt_9 (by decide) ?_
  refine wp_isub (pc := 10) dX11_thingAt_10 ?_
  refine wc_SP (pc := 11) (μ2 := mX11_isWithin) (rc := 0) (rs := 0) [_, _, _] dX11_thingAt_11 rfl cs_X11_103 rfl ⟨(Nat.le_of_ble_eq_true rfl), (Nat.le_of_ble_eq_true rfl)⟩ (Nat.le_of_ble_eq_true rfl) (c_isWithin l G _ _ _ _) ?_
  refine wp_ifB_eq (pc := 14) (tgt := 31) dX11_thingAt_14 (by decide) (fun c14 => ?_) (fun c14 => ?_)
  · rw [fin_ix v (by omega)] at c14
    refine wp_null (pc := 31) dX11_thingAt_31 ?_
    exact wp_aret (r := none) (pc := 32) dX11_thingAt_32 rfl (Or.inl ⟨_, rfl⟩) ⟨by rw [oAt_f c14], rfl⟩
  · rw [fin_ix v (by omega)] at c14
    obtain ⟨j, hj, rfl⟩ := isIx_t c14 (by omega)
    refine wp_aload_n (pc := 17) dX11_thingAt_17 rfl rfl ?_
    refine wp_get (pc := 18) dX11_thingAt_18 fl_X11_19_12 hR.bd rfl ?_
    refine wp_iload_n (pc := 21) dX11_thingAt_21 rfl rfl ?_
    refine wc_VP (pc := 22) (μ2 := mJx4a65c_get_915e3) (rc := 0) (rs := 0) [_] dX11_thingAt_22 rfl (hR.lst (ll := 2) (by omega)) rfl cv_X11_383_0 rfl ⟨(Nat.le_of_ble_eq_true rfl), (Nat.le_of_ble_eq_true rfl)⟩ (Nat.le_of_ble_eq_true rfl) (j_get l G _ (hR.lst (ll := 2) (by omega)) (hR.dat (by omega)) hj (hR.cap (by omega)).1 (hR.cap (by omega)).2) ?_
    refine wp_castT (pc := 25) dX11_thingAt_25 (hR.th hj) cT_X11_161 ?_
    refine wp_goto (pc := 28) (tgt := 32) dX11_thingAt_28 (by decide) ?_
    exact wp_aret (r := some (A.1 7 j)) (pc := 32) dX11_thingAt_32 rfl (Or.inl ⟨_, rfl⟩) ⟨by rw [oAt_t hj (by omega)], rfl⟩
end K1
