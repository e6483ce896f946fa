/-! ===== the class: put, its rows ===== -/
section K33
variable (l : Launch) (G : WG) {hp h : Hp} {A : AD} {M : MS}
theorem c_canBePut (what n : Int32) (hR : RH G hp A M h) (hb : bnd M) : SpP l G mX11_canBePut [.ref (A.1 0 0), .int what, .int n] h (.int (bi (putOk M what n))) := by
  refine Sp.intro (lv := [_, _, _]) (by decide) rfl (Nat.le_of_ble_eq_true rfl) ?_
  refine wp_widen (rc' := 0) (rs' := 0) (Nat.le_refl _) (Nat.le_refl _) ?_
  refine wp_iload_n (pc := 0) dX11_canBePut_0 rfl rfl ?_
  refine wp_tsw_0_4 (pc := 1) dX11_canBePut_1 (t0 := 36) (t1 := 52) (t2 := 38) (t3 := 52) (t4 := 52) (td := 66) (by decide) (by decide) (by decide) (by decide) (by decide) (by decide) (fun c1 => ?_) (fun c1 => ?_) (fun c1 => ?_) (fun c1 => ?_) (fun c1 => ?_) (fun c1 => ?_)
  · skip
    refine wp_iconst (pc := 36) (v := 1) dX11_canBePut_36 (by decide) ?_
    exact wp_zret (pc := 37) dX11_canBePut_37 rfl (by decide) ⟨by subst c1; simp only [putOk, bi, if_true, if_false, Bool.true_eq_false, Bool.false_eq_true, reduceIte, reduceCtorEq, Bool.not_true, Bool.not_false, true_and, and_true, and_false, false_and, or_true, true_or, or_false, false_or, not_true_eq_false, not_false_eq_true] <;> rfl, rfl⟩
  · skip
    refine wp_aload_n (pc := 52) dX11_canBePut_52 rfl rfl ?_
    refine wp_iload_n (pc := 53) dX11_canBePut_53 rfl rfl ?_
    refine wc_VP (pc := 54) (μ2 := mX11_thingAt) (rc := 0) (rs := 0) [_] dX11_canBePut_54 rfl hR.bd rfl cv_X11_156_12 rfl ⟨(Nat.le_of_ble_eq_true rfl), (Nat.le_of_ble_eq_true rfl)⟩ (Nat.le_of_ble_eq_true rfl) (c_thingAt l G _ hR hb) ?_
    refine wp_ifnull (pc := 57) (tgt := 64) dX11_canBePut_57 (by decide) (fun c57 => ?_) (fun a57 c57 => ?_)
    · skip
      refine wp_iconst (pc := 64) (v := 0) dX11_canBePut_64 (by decide) ?_
      exact wp_zret (pc := 65) dX11_canBePut_65 rfl (by decide) ⟨by subst c1; simp only [putOk, oAt_n c57, bi, if_true, if_false, Bool.true_eq_false, Bool.false_eq_true, reduceIte, reduceCtorEq, Bool.not_true, Bool.not_false, true_and, and_true, and_false, false_and, or_true, true_or, or_false, false_or, not_true_eq_false, not_false_eq_true] <;> rfl, rfl⟩
    · skip
      refine wp_iconst (pc := 60) (v := 1) dX11_canBePut_60 (by decide) ?_
      refine wp_goto (pc := 61) (tgt := 65) dX11_canBePut_61 (by decide) ?_
      exact wp_zret (pc := 65) dX11_canBePut_65 rfl (by decide) ⟨by subst c1; simp only [putOk, oAt_i c57, bi, if_true, if_false, Bool.true_eq_false, Bool.false_eq_true, reduceIte, reduceCtorEq, Bool.not_true, Bool.not_false, true_and, and_true, and_false, false_and, or_true, true_or, or_false, false_or, not_true_eq_false, not_false_eq_true] <;> rfl, rfl⟩
  · skip
    refine wp_aload_n (pc := 38) dX11_canBePut_38 rfl rfl ?_
    refine wp_iload_n (pc := 39) dX11_canBePut_39 rfl rfl ?_
    refine wc_VP (pc := 40) (μ2 := mX11_letterAt) (rc := 0) (rs := 0) [_] dX11_canBePut_40 rfl hR.bd rfl cv_X11_205_12 rfl ⟨(Nat.le_of_ble_eq_true rfl), (Nat.le_of_ble_eq_true rfl)⟩ (Nat.le_of_ble_eq_true rfl) (c_letterAt l G _ hR hb) ?_
    refine wp_ifnull (pc := 43) (tgt := 50) dX11_canBePut_43 (by decide) (fun c43 => ?_) (fun a43 c43 => ?_)
    · skip
      refine wp_iconst (pc := 50) (v := 0) dX11_canBePut_50 (by decide) ?_
      exact wp_zret (pc := 51) dX11_canBePut_51 rfl (by decide) ⟨by subst c1; simp only [putOk, oAt_n c43, bi, if_true, if_false, Bool.true_eq_false, Bool.false_eq_true, reduceIte, reduceCtorEq, Bool.not_true, Bool.not_false, true_and, and_true, and_false, false_and, or_true, true_or, or_false, false_or, not_true_eq_false, not_false_eq_true] <;> rfl, rfl⟩
    · skip
      refine wp_iconst (pc := 46) (v := 1) dX11_canBePut_46 (by decide) ?_
      refine wp_goto (pc := 47) (tgt := 51) dX11_canBePut_47 (by decide) ?_
      exact wp_zret (pc := 51) dX11_canBePut_51 rfl (by decide) ⟨by subst c1; simp only [putOk, oAt_i c43, bi, if_true, if_false, Bool.true_eq_false, Bool.false_eq_true, reduceIte, reduceCtorEq, Bool.not_true, Bool.not_false, true_and, and_true, and_false, false_and, or_true, true_or, or_false, false_or, not_true_eq_false, not_false_eq_true] <;> rfl, rfl⟩
  · skip
    refine wp_aload_n (pc := 52) dX11_canBePut_52 rfl rfl ?_
    refine wp_iload_n (pc := 53) dX11_canBePut_53 rfl rfl ?_
    refine wc_VP (pc := 54) (μ2 := mX11_thingAt) (rc := 0) (rs := 0) [_] dX11_canBePut_54 rfl hR.bd rfl cv_X11_156_12 rfl ⟨(Nat.le_of_ble_eq_true rfl), (Nat.le_of_ble_eq_true rfl)⟩ (Nat.le_of_ble_eq_true rfl) (c_thingAt l G _ hR hb) ?_
    refine wp_ifnull (pc := 57) (tgt := 64) dX11_canBePut_57 (by decide) (fun c57 => ?_) (fun a57 c57 => ?_)
    · skip
      refine wp_iconst (pc := 64) (v := 0) dX11_canBePut_64 (by decide) ?_
      exact wp_zret (pc := 65) dX11_canBePut_65 rfl (by decide) ⟨by subst c1; simp only [putOk, oAt_n c57, bi, if_true, if_false, Bool.true_eq_false, Bool.false_eq_true, reduceIte, reduceCtorEq, Bool.not_true, Bool.not_false, true_and, and_true, and_false, false_and, or_true, true_or, or_false, false_or, not_true_eq_false, not_false_eq_true] <;> rfl, rfl⟩
    · skip
      refine wp_iconst (pc := 60) (v := 1) dX11_canBePut_60 (by decide) ?_
      refine wp_goto (pc := 61) (tgt := 65) dX11_canBePut_61 (by decide) ?_
      exact wp_zret (pc := 65) dX11_canBePut_65 rfl (by decide) ⟨by subst c1; simp only [putOk, oAt_i c57, bi, if_true, if_false, Bool.true_eq_false, Bool.false_eq_true, reduceIte, reduceCtorEq, Bool.not_true, Bool.not_false, true_and, and_true, and_false, false_and, or_true, true_or, or_false, false_or, not_true_eq_false, not_false_eq_true] <;> rfl, rfl⟩
  · skip
    refine wp_aload_n (pc := 52) dX11_canBePut_52 rfl rfl ?_
    refine wp_iload_n (pc := 53) dX11_canBePut_53 rfl rfl ?_
    refine wc_VP (pc := 54) (μ2 := mX11_thingAt) (rc := 0) (rs := 0) [_] dX11_canBePut_54 rfl hR.bd rfl cv_X11_156_12 rfl ⟨(Nat.le_of_ble_eq_true rfl), (Nat.le_of_ble_eq_true rfl)⟩ (Nat.le_of_ble_eq_true rfl) (c_thingAt l G _ hR hb) ?_
    refine wp_ifnull (pc := 57) (tgt := 64) dX11_canBePut_57 (by decide) (fun c57 => ?_) (fun a57 c57 => ?_)
    · skip
      refine wp_iconst (pc := 64) (v := 0) dX11_canBePut_64 (by decide) ?_
      exact wp_zret (pc := 65) dX11_canBePut_65 rfl (by decide) ⟨by subst c1; simp only [putOk, oAt_n c57, bi, if_true, if_false, Bool.true_eq_false, Bool.false_eq_true, reduceIte, reduceCtorEq, Bool.not_true, Bool.not_false, true_and, and_true, and_false, false_and, or_true, true_or, or_false, false_or, not_true_eq_false, not_false_eq_true] <;> rfl, rfl⟩
    · skip
      refine wp_iconst (pc := 60) (v := 1) dX11_canBePut_60 (by decide) ?_
      refine wp_goto (pc := 61) (tgt := 65) dX11_canBePut_61 (by decide) ?_
      exact wp_zret (pc := 65) dX11_canBePut_65 rfl (by decide) ⟨by subst c1; simp only [putOk, oAt_i c57, bi, if_true, if_false, Bool.true_eq_false, Bool.false_eq_true, reduceIte, reduceCtorEq, Bool.not_true, Bool.not_false, true_and, and_true, and_false, false_and, or_true, true_or, or_false, false_or, not_true_eq_false, not_false_eq_true] <;> rfl, rfl⟩
  · skip
    refine wp_iconst (pc := 66) (v := 0) dX11_canBePut_66 (by decide) ?_
    exact wp_zret (pc := 67) dX11_canBePut_67 rfl (by decide) ⟨by unfold putOk; rw [if_neg (sw_ne c1 (by decide)), if_neg (sw_ne c1 (by decide)), if_neg (sw_ne c1 (by decide)), if_neg (sw_ne c1 (by decide)), if_neg (sw_ne c1 (by decide))]; rfl, rfl⟩
theorem rowN (f : Nat → Int64) {i g : Nat} (hi : i < g) : fu (fun q => if q < i then f q else 0) i (f i) = fun q => if q < i + 1 then f q else 0 := by
  funext q
  show (if q = i then f i else if q < i then f q else 0) = if q < i + 1 then f q else 0
  by_cases h1 : q = i
  · subst h1; rw [if_pos rfl, if_pos (by omega)]
  · rw [if_neg h1]
    by_cases h2 : q < i
    · rw [if_pos h2, if_pos (by omega)]
    · rw [if_neg h2, if_neg (by omega)]
theorem rowZ (f : Nat → Int32) {i : Nat} : fu (fun q => if q < i then f q else 0) i (f i) = fun q => if q < i + 1 then f q else 0 := by
  funext q
  show (if q = i then f i else if q < i then f q else 0) = if q < i + 1 then f q else 0
  by_cases h1 : q = i
  · subst h1; rw [if_pos rfl, if_pos (by omega)]
  · rw [if_neg h1]
    by_cases h2 : q < i
    · rw [if_pos h2, if_pos (by omega)]
    · rw [if_neg h2, if_neg (by omega)]
theorem c_numbersOf {t : Nat} (hR : RH G hp A M h) (hb : bnd M) (hT : tidy M) (ht : t < nx (M.1 11)) : SpV l G mX11_numbersOf [.ref (A.1 0 0), .int (nI t)] h (fun r h' => ∃ a, r = .ref a ∧ h a = none ∧ h' a = some (aJ (nx (M.2.1 21 t)) (fun q => if q < nx (M.2.1 21 t) then M.2.2 25 (20 * t + q) else 0)) ∧ ∀ q, q ≠ a → h' q = h q) := by
  refine Sp.intro (lv := [_, _, _, _, _]) (by decide) rfl (Nat.le_of_ble_eq_true rfl) ?_
  refine wp_widen (rc' := 1) (rs' := 20) (Nat.le_refl _) (Nat.le_refl _) ?_
  have hb9 := hb
  unfold bnd at hb9
  have h20 := hT.1 t ht
  obtain ⟨h0, hh0⟩ : ∃ h0, h0 = h := ⟨h, rfl⟩
  rw [← hh0]
  generalize hQ0 : (fun (w9 : Option Value) (h' : Hp) => ∃ r, w9 = some r ∧ (fun r h' => ∃ a, r = .ref a ∧ h0 a = none ∧ h' a = some (aJ (nx (M.2.1 21 t)) (fun q => if q < nx (M.2.1 21 t) then M.2.2 25 (20 * t + q) else 0)) ∧ ∀ q, q ≠ a → h' q = h0 q) r h') = Q0
  rw [hh0]
  refine wp_aload_n (pc := 0) dX11_numbersOf_0 rfl rfl ?_
  refine wp_iload_n (pc := 1) dX11_numbersOf_1 rfl rfl ?_
  refine wc_VP (pc := 2) (μ2 := mX11_thingAt) (rc := 1) (rs := 20) [_] dX11_numbersOf_2 rfl hR.bd rfl cv_X11_156_12 rfl ⟨(Nat.le_of_ble_eq_true rfl), (Nat.le_of_ble_eq_true rfl)⟩ (Nat.le_of_ble_eq_true rfl) (c_thingAt l G _ hR hb) ?_
  rw [oAt_t ht (by omega)]
  refine wp_astore_n (pc := 5) (lv' := [_, _, _, _, _]) dX11_numbersOf_5 rfl (Nat.le_of_ble_eq_true rfl) rfl rfl ?_
  refine wp_aload_n (pc := 6) dX11_numbersOf_6 rfl rfl ?_
  refine wp_ifnonnullR (pc := 7) (tgt := 12) dX11_numbersOf_7 (by decide) ?_
  refine wp_aload_n (pc := 12) dX11_numbersOf_12 rfl rfl ?_
  refine wp_getT (pc := 13) dX11_numbersOf_13 ft_X11_254 (hR.th ht) rfl ?_
  refine wc_VP (pc := 16) (μ2 := mJx4a65c_size_8abf5) (rc := 1) (rs := 20) [] dX11_numbersOf_16 rfl (hR.lst (ll := t + 4) (by omega)) rfl cv_X11_87_0 rfl ⟨(Nat.le_of_ble_eq_true rfl), (Nat.le_of_ble_eq_true rfl)⟩ (Nat.le_of_ble_eq_true rfl) (show SpP l G mJx4a65c_size_8abf5 [_] _ (.int (nI (nx (M.2.1 21 t)))) from j_size l G _ (hR.lst (ll := t + 4) (by omega))) ?_
  refine wp_widen (rc' := 0 + 1) (rs' := 0 + nx (M.2.1 21 t)) (by omega) (by omega) ?_
  refine wp_newaC (pc := 19) (k := 1) (N := nx (M.2.1 21 t)) (rc := 0) (rs := 0) dX11_numbersOf_19 wA1 ⟨Or.inr (Or.inl rfl), rfl⟩ (Or.inr (Or.inl ⟨rfl, rfl⟩)) rfl (by omega) (fun a h an ac af => ?_)
  have hR0 := hR
  have hR := hR.fresh an ac af
  rw [← hh0] at an af
  refine wp_astore_n (pc := 21) (lv' := [_, _, _, _, _]) dX11_numbersOf_21 rfl (Nat.le_of_ble_eq_true rfl) rfl rfl ?_
  refine wp_iconst (pc := 22) (v := 0) dX11_numbersOf_22 (by decide) ?_
  refine wp_istore (pc := 23) (lv' := [_, _, _, _, _]) dX11_numbersOf_23 (Nat.le_of_ble_eq_true rfl) rfl rfl ?_
  have hane : a ≠ gE G := hR0.ngE (by rw [← hh0]; exact an)
  have loop : ∀ i, i ≤ nx (M.2.1 21 t) → ∀ h, h a = some (aJ (nx (M.2.1 21 t)) (fun q => if q < i then M.2.2 25 (20 * t + q) else 0)) → RH G (up hp a (aJ (nx (M.2.1 21 t)) (fun q => if q < i then M.2.2 25 (20 * t + q) else 0))) A M h → (∀ q, q ≠ a → h q = h0 q) → wp l G mX11_numbersOf (zM G mX11_numbersOf Q0) 25 [some (.ref (A.1 0 0)), some (.int (nI t)), some (.ref (A.1 7 t)), some (.ref a), some (.int (nI i))] [] h 0 0 := by
    refine loopU _ (nx (M.2.1 21 t)) (fun i hi ih => ?_) ?_
    · intro h ac hR af
      refine wp_iload (pc := 25) dX11_numbersOf_25 rfl ?_
      refine wp_aload_n (pc := 27) dX11_numbersOf_27 rfl rfl ?_
      refine wp_alen (k := 1) (pc := 28) (by decide) dX11_numbersOf_28 ac ?_
      refine wp_icmp_ge (pc := 29) (tgt := 69) dX11_numbersOf_29 (by decide) (fun z => absurd z (nI_ge hi (by omega))) (fun _ => ?_)
      refine wp_iload (pc := 32) dX11_numbersOf_32 rfl ?_
      refine wp_aload_n (pc := 34) dX11_numbersOf_34 rfl rfl ?_
      refine wp_getT (pc := 35) dX11_numbersOf_35 ft_X11_254 (hR.th ht) rfl ?_
      refine wc_VP (pc := 38) (μ2 := mJx4a65c_size_8abf5) (rc := 0) (rs := 0) [] dX11_numbersOf_38 rfl (hR.lst (ll := t + 4) (by omega)) rfl cv_X11_87_0 rfl ⟨(Nat.le_of_ble_eq_true rfl), (Nat.le_of_ble_eq_true rfl)⟩ (Nat.le_of_ble_eq_true rfl) (show SpP l G mJx4a65c_size_8abf5 [_] _ (.int (nI (nx (M.2.1 21 t)))) from j_size l G _ (hR.lst (ll := t + 4) (by omega))) ?_
      refine wp_icmp_ge (pc := 41) (tgt := 69) dX11_numbersOf_41 (by decide) (fun z => absurd z (nI_ge hi (by omega))) (fun _ => ?_)
      refine wp_aload_n (pc := 44) dX11_numbersOf_44 rfl rfl ?_
      refine wp_iload (pc := 45) dX11_numbersOf_45 rfl ?_
      refine wp_aload_n (pc := 47) dX11_numbersOf_47 rfl rfl ?_
      refine wp_getT (pc := 48) dX11_numbersOf_48 ft_X11_254 (hR.th ht) rfl ?_
      refine wp_iload (pc := 51) dX11_numbersOf_51 rfl ?_
      refine wc_VP (pc := 53) (μ2 := mJx4a65c_get_915e3) (rc := 0) (rs := 0) [_] dX11_numbersOf_53 rfl (hR.lst (ll := t + 4) (by omega)) rfl cv_X11_383_0 rfl ⟨(Nat.le_of_ble_eq_true rfl), (Nat.le_of_ble_eq_true rfl)⟩ (Nat.le_of_ble_eq_true rfl) (j_get l G _ (hR.lst (ll := t + 4) (by omega)) (hR.dat (by omega)) hi (hR.cap (by omega)).1 (hR.cap (by omega)).2) ?_
      refine wp_cast (pc := 56) dX11_numbersOf_56 (hR.gi hT ht hi) ca_X11_262_2 ?_
      refine wp_get (pc := 59) dX11_numbersOf_59 fl_X11_266_2 (hR.gi hT ht hi) rfl ?_
      refine wp_lastC (pc := 62) (i := i) dX11_numbersOf_62 ac ⟨rfl, hi, by omega⟩ (fun h hq1 hq2 => ?_)
      rw [rowN (fun q => M.2.2 25 (20 * t + q)) hi] at hq1
      have hR := hR.upf hane hq1 hq2
      have af := fun q (hq : q ≠ a) => (hq2 q hq).trans (af q hq)
      refine wp_iinc (pc := 63) (v := _ + 1) (lv' := [_, _, _, _, _]) dX11_numbersOf_63 rfl rfl rfl rfl ?_
      refine wp_goto (pc := 66) (tgt := 25) dX11_numbersOf_66 (by decide) ?_
      exact wp_lv (ih h hq1 hR af) (by simp [nI_1])
    · intro h ac hR af
      refine wp_iload (pc := 25) dX11_numbersOf_25 rfl ?_
      refine wp_aload_n (pc := 27) dX11_numbersOf_27 rfl rfl ?_
      refine wp_alen (k := 1) (pc := 28) (by decide) dX11_numbersOf_28 ac ?_
      refine wp_icmp_ge (pc := 29) (tgt := 69) dX11_numbersOf_29 (by decide) (fun _ => ?_) (fun z => absurd (nI_le (Nat.le_refl _) (by omega)) z)
      refine wp_aload_n (pc := 69) dX11_numbersOf_69 rfl rfl ?_
      exact wp_aret (r := some a) (pc := 70) dX11_numbersOf_70 rfl (Or.inr ⟨_, rfl⟩) (by rw [← hQ0]; exact ⟨_, rfl, a, rfl, an, ac, af⟩)
  have e00 : (fun q => if q < 0 then M.2.2 25 (20 * t + q) else 0) = fun _ => (0 : Int64) := by funext q; rw [if_neg (by omega)]
  exact loop 0 (Nat.zero_le _) h (by rw [e00]; exact ac) (by rw [e00]; exact hR) af
theorem c_truthsOf {t : Nat} (hR : RH G hp A M h) (hb : bnd M) (ht : t < nx (M.1 11)) : SpV l G mX11_truthsOf [.ref (A.1 0 0), .int (nI t)] h (fun r h' => ∃ a, r = .ref a ∧ h a = none ∧ h' a = some (aZ (nx (M.1 6)) (fun q => if q < nx (M.1 6) then bi (mayB M q t) else 0)) ∧ ∀ q, q ≠ a → h' q = h q) := by
  refine Sp.intro (lv := [_, _, _, _]) (by decide) rfl (Nat.le_of_ble_eq_true rfl) ?_
  refine wp_widen (rc' := 1) (rs' := 20) (Nat.le_refl _) (Nat.le_refl _) ?_
  have hb9 := hb
  unfold bnd at hb9
  obtain ⟨h0, hh0⟩ : ∃ h0, h0 = h := ⟨h, rfl⟩
  rw [← hh0]
  generalize hQ0 : (fun (w9 : Option Value) (h' : Hp) => ∃ r, w9 = some r ∧ (fun r h' => ∃ a, r = .ref a ∧ h0 a = none ∧ h' a = some (aZ (nx (M.1 6)) (fun q => if q < nx (M.1 6) then bi (mayB M q t) else 0)) ∧ ∀ q, q ≠ a → h' q = h0 q) r h') = Q0
  rw [hh0]
  refine wp_aload_n (pc := 0) dX11_truthsOf_0 rfl rfl ?_
  refine wp_get (pc := 1) dX11_truthsOf_1 fl_X11_16_12 hR.bd rfl ?_
  refine wc_VP (pc := 4) (μ2 := mJx4a65c_size_8abf5) (rc := 1) (rs := 20) [] dX11_truthsOf_4 rfl (hR.lst (ll := 1) (by omega)) rfl cv_X11_87_0 rfl ⟨(Nat.le_of_ble_eq_true rfl), (Nat.le_of_ble_eq_true rfl)⟩ (Nat.le_of_ble_eq_true rfl) (show SpP l G mJx4a65c_size_8abf5 [_] _ (.int (nI (nx (M.1 6)))) from j_size l G _ (hR.lst (ll := 1) (by omega))) ?_
  refine wp_widen (rc' := 0 + 1) (rs' := 0 + nx (M.1 6)) (by omega) (by omega) ?_
  refine wp_newaC (pc := 7) (k := 2) (N := nx (M.1 6)) (rc := 0) (rs := 0) dX11_truthsOf_7 wA2 ⟨Or.inr (Or.inr rfl), rfl⟩ (Or.inr (Or.inr ⟨rfl, rfl⟩)) rfl (by omega) (fun a h an ac af => ?_)
  have hR0 := hR
  have hR := hR.fresh an ac af
  rw [← hh0] at an af
  refine wp_astore_n (pc := 9) (lv' := [_, _, _, _]) dX11_truthsOf_9 rfl (Nat.le_of_ble_eq_true rfl) rfl rfl ?_
  refine wp_iconst (pc := 10) (v := 0) dX11_truthsOf_10 (by decide) ?_
  refine wp_istore_n (pc := 11) (lv' := [_, _, _, _]) dX11_truthsOf_11 rfl (Nat.le_of_ble_eq_true rfl) rfl rfl ?_
  have hane : a ≠ gE G := hR0.ngE (by rw [← hh0]; exact an)
  have loop : ∀ i, i ≤ nx (M.1 6) → ∀ h, h a = some (aZ (nx (M.1 6)) (fun q => if q < i then bi (mayB M q t) else 0)) → RH G (up hp a (aZ (nx (M.1 6)) (fun q => if q < i then bi (mayB M q t) else 0))) A M h → (∀ q, q ≠ a → h q = h0 q) → wp l G mX11_truthsOf (zM G mX11_truthsOf Q0) 12 [some (.ref (A.1 0 0)), some (.int (nI t)), some (.ref a), some (.int (nI i))] [] h 0 0 := by
    refine loopU _ (nx (M.1 6)) (fun i hi ih => ?_) ?_
    · intro h ac hR af
      refine wp_iload_n (pc := 12) dX11_truthsOf_12 rfl rfl ?_
      refine wp_aload_n (pc := 13) dX11_truthsOf_13 rfl rfl ?_
      refine wp_alen (k := 2) (pc := 14) (by decide) dX11_truthsOf_14 ac ?_
      refine wp_icmp_ge (pc := 15) (tgt := 33) dX11_truthsOf_15 (by decide) (fun z => absurd z (nI_ge hi (by omega))) (fun _ => ?_)
      refine wp_aload_n (pc := 18) dX11_truthsOf_18 rfl rfl ?_
      refine wp_iload_n (pc := 19) dX11_truthsOf_19 rfl rfl ?_
      refine wp_aload_n (pc := 20) dX11_truthsOf_20 rfl rfl ?_
      refine wp_iload_n (pc := 21) dX11_truthsOf_21 rfl rfl ?_
      refine wp_iload_n (pc := 22) dX11_truthsOf_22 rfl rfl ?_
      refine wc_VP (pc := 23) (μ2 := mX11_mayUse) (rc := 0) (rs := 0) [_, _] dX11_truthsOf_23 rfl hR.bd rfl cv_X11_300_12 rfl ⟨(Nat.le_of_ble_eq_true rfl), (Nat.le_of_ble_eq_true rfl)⟩ (Nat.le_of_ble_eq_true rfl) (c_mayUse l G hR hb hi ht) ?_
      refine wp_zastC (pc := 26) (i := i) dX11_truthsOf_26 ac ⟨rfl, hi, by omega⟩ (bi01 _) (fun h hq1 hq2 => ?_)
      rw [rowZ (fun q => bi (mayB M q t))] at hq1
      have hR := hR.upf hane hq1 hq2
      have af := fun q (hq : q ≠ a) => (hq2 q hq).trans (af q hq)
      refine wp_iinc (pc := 27) (v := _ + 1) (lv' := [_, _, _, _]) dX11_truthsOf_27 rfl rfl rfl rfl ?_
      refine wp_goto (pc := 30) (tgt := 12) dX11_truthsOf_30 (by decide) ?_
      exact wp_lv (ih h hq1 hR af) (by simp [nI_1])
    · intro h ac hR af
      refine wp_iload_n (pc := 12) dX11_truthsOf_12 rfl rfl ?_
      refine wp_aload_n (pc := 13) dX11_truthsOf_13 rfl rfl ?_
      refine wp_alen (k := 2) (pc := 14) (by decide) dX11_truthsOf_14 ac ?_
      refine wp_icmp_ge (pc := 15) (tgt := 33) dX11_truthsOf_15 (by decide) (fun _ => ?_) (fun z => absurd (nI_le (Nat.le_refl _) (by omega)) z)
      refine wp_aload_n (pc := 33) dX11_truthsOf_33 rfl rfl ?_
      exact wp_aret (r := some a) (pc := 34) dX11_truthsOf_34 rfl (Or.inr ⟨_, rfl⟩) (by rw [← hQ0]; exact ⟨_, rfl, a, rfl, an, ac, af⟩)
  have e00 : (fun q => if q < 0 then bi (mayB M q t) else 0) = fun _ => (0 : Int32) := by funext q; rw [if_neg (by omega)]
  exact loop 0 (Nat.zero_le _) h (by rw [e00]; exact ac) (by rw [e00]; exact hR) af
end K33
