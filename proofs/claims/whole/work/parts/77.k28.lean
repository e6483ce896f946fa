/-! ===== the class: a letter reaches a worker; deliver ===== -/
theorem isMn_i {M : MS} {j h : Nat} (hm : ¬ M.2.1 43 j = 0) : isMn M j h = true ↔ M.2.1 32 h = M.2.1 43 j := by
  unfold isMn
  by_cases z : M.2.1 32 h = 0
  · rw [if_pos z, z]; exact ⟨fun y => (by cases y), fun y => absurd y.symm hm⟩
  · rw [if_neg z]
    by_cases y : M.2.1 32 h = M.2.1 43 j
    · rw [if_pos y]; exact ⟨fun _ => y, fun _ => rfl⟩
    · rw [if_neg y]; exact ⟨fun x => (by cases x), fun x => absurd x y⟩
/-- what comes of a letter to a worker -/
def rwF (M : MS) (j : Nat) : Int32 × MS := if M.2.1 10 (nx (M.2.1 37 j)) = 0 then (0, M) else (1, twM M j)
theorem le3_lt4 (x : Int32) : (3 < x) ↔ ¬ x < 4 := by rw [Int32.lt_iff_toInt_lt, Int32.lt_iff_toInt_lt, show (3 : Int32).toInt = 3 from rfl, show (4 : Int32).toInt = 4 from rfl]; omega
section K28
variable (l : Launch) (G : WG) {hp h : Hp} {A : AD} {M : MS}
theorem c_keep {j w t : Nat} (u : Int64) (hR : RH G hp A M h) (hj : j < nx (M.1 35)) (hm : 20 * w + t < 20 * nx (M.1 6)) : SpN l G mX3_keep [.ref (A.1 6 (20 * w + t)), .ref (A.1 9 j), .long u] h (fun h' => RH G hp A (sL (sL (sI (sI (sI M 29 (20 * w + t) 1) 30 (20 * w + t) (M.2.1 40 j)) 31 (20 * w + t) (M.2.1 41 j)) 33 (20 * w + t) (M.2.2 44 j)) 34 (20 * w + t) u) h') := by
  refine Sp.intro (lv := [_, _, _, _]) (by decide) rfl (Nat.le_of_ble_eq_true rfl) ?_
  refine wp_widen (rc' := 0) (rs' := 0) (Nat.le_refl _) (Nat.le_refl _) ?_
  refine wp_aload_n (pc := 0) dX3_keep_0 rfl rfl ?_
  refine wp_iconst (pc := 1) (v := 1) dX3_keep_1 (by decide) ?_
  refine wp_putC (pc := 2) dX3_keep_2 fl_X3_13_4 (hR.mm (i := 20 * w + t) hm) (Or.inl rfl) (Nat.le_of_ble_eq_true rfl) rfl rfl rfl (fun h hq1 hq2 => ?_)
  have hR := hR.k6 (M' := sI (M) 29 (20 * w + t) (1)) ((chg.refl _ _ _ _).sI (by decide) _) (vl_6.mpr hm) (by rw [hq1]; simp [cc, cMm, sI, sL, sS, fu]) hq2
  refine wp_aload_n (pc := 5) dX3_keep_5 rfl rfl ?_
  refine wp_aload_n (pc := 6) dX3_keep_6 rfl rfl ?_
  refine wp_get (pc := 7) dX3_keep_7 fl_X3_30_3 (hR.lt hj) rfl ?_
  refine wp_putC (pc := 10) dX3_keep_10 fl_X3_17_4 (hR.mm (i := 20 * w + t) hm) (Or.inl rfl) (Nat.le_of_ble_eq_true rfl) rfl rfl rfl (fun h hq1 hq2 => ?_)
  have hR := hR.k6 (M' := sI (sI (M) 29 (20 * w + t) (1)) 30 (20 * w + t) (M.2.1 40 j)) ((chg.refl _ _ _ _).sI (by decide) _) (vl_6.mpr hm) (by rw [hq1]; simp [cc, cMm, sI, sL, sS, fu]) hq2
  refine wp_aload_n (pc := 13) dX3_keep_13 rfl rfl ?_
  refine wp_aload_n (pc := 14) dX3_keep_14 rfl rfl ?_
  refine wp_get (pc := 15) dX3_keep_15 fl_X3_33_3 (hR.lt hj) rfl ?_
  refine wp_putC (pc := 18) dX3_keep_18 fl_X3_20_4 (hR.mm (i := 20 * w + t) hm) (Or.inl rfl) (Nat.le_of_ble_eq_true rfl) rfl rfl rfl (fun h hq1 hq2 => ?_)
  have hR := hR.k6 (M' := sI (sI (sI (M) 29 (20 * w + t) (1)) 30 (20 * w + t) (M.2.1 40 j)) 31 (20 * w + t) (M.2.1 41 j)) ((chg.refl _ _ _ _).sI (by decide) _) (vl_6.mpr hm) (by rw [hq1]; simp [cc, cMm, sI, sL, sS, fu]) hq2
  refine wp_aload_n (pc := 21) dX3_keep_21 rfl rfl ?_
  refine wp_aload_n (pc := 22) dX3_keep_22 rfl rfl ?_
  refine wp_get (pc := 23) dX3_keep_23 fl_X3_34_3 (hR.lt hj) rfl ?_
  refine wp_putC (pc := 26) dX3_keep_26 fl_X3_23_4 (hR.mm (i := 20 * w + t) hm) (Or.inl rfl) (Nat.le_of_ble_eq_true rfl) rfl rfl rfl (fun h hq1 hq2 => ?_)
  have hR := hR.k6 (M' := sL (sI (sI (sI (M) 29 (20 * w + t) (1)) 30 (20 * w + t) (M.2.1 40 j)) 31 (20 * w + t) (M.2.1 41 j)) 33 (20 * w + t) (M.2.2 44 j)) ((chg.refl _ _ _ _).sL (by decide) _) (vl_6.mpr hm) (by rw [hq1]; simp [cc, cMm, sI, sL, sS, fu]) hq2
  refine wp_aload_n (pc := 29) dX3_keep_29 rfl rfl ?_
  refine wp_lload_n (pc := 30) dX3_keep_30 rfl rfl ?_
  refine wp_putC (pc := 31) dX3_keep_31 fl_X3_27_4 (hR.mm (i := 20 * w + t) hm) (Or.inl rfl) (Nat.le_of_ble_eq_true rfl) rfl rfl rfl (fun h hq1 hq2 => ?_)
  have hR := hR.k6 (M' := sL (sL (sI (sI (sI (M) 29 (20 * w + t) (1)) 30 (20 * w + t) (M.2.1 40 j)) 31 (20 * w + t) (M.2.1 41 j)) 33 (20 * w + t) (M.2.2 44 j)) 34 (20 * w + t) (u)) ((chg.refl _ _ _ _).sL (by decide) _) (vl_6.mpr hm) (by rw [hq1]; simp [cc, cMm, sI, sL, sS, fu]) hq2
  exact wp_vret (pc := 34) dX3_keep_34 rfl ⟨rfl, hR⟩
theorem c_hearGrant {j w t : Nat} (hR : RH G hp A M h) (hj : j < nx (M.1 35)) (hm : 20 * w + t < 20 * nx (M.1 6)) (hmk : ¬ M.2.1 43 j = 0) : SpN l G mX11_hearGrant [.ref (A.1 9 j), .ref (A.1 6 (20 * w + t)), .long (wClk M w), .int (M.2.1 13 t)] h (fun h' => RH G hp A (if isMn M j (20 * w + t) = true then twG M j w t else M) h') := by
  refine Sp.intro (lv := [_, _, _, _, _, _, _]) (by decide) rfl (Nat.le_of_ble_eq_true rfl) ?_
  refine wp_widen (rc' := 0) (rs' := 0) (Nat.le_refl _) (Nat.le_refl _) ?_
  refine wp_aload_n (pc := 0) dX11_hearGrant_0 rfl rfl ?_
  refine wp_get (pc := 1) dX11_hearGrant_1 fl_X11_303_4 (hR.mm (i := 20 * w + t) hm) rfl ?_
  refine wp_aload_n (pc := 4) dX11_hearGrant_4 rfl rfl ?_
  refine wp_get (pc := 5) dX11_hearGrant_5 fl_X11_243_3 (hR.lt hj) rfl ?_
  refine wp_icmp_eq (pc := 8) (tgt := 12) dX11_hearGrant_8 (by decide) (fun c8 => ?_) (fun c8 => ?_)
  · skip
    refine wp_aload_n (pc := 12) dX11_hearGrant_12 rfl rfl ?_
    refine wp_iconst (pc := 13) (v := 0) dX11_hearGrant_13 (by decide) ?_
    refine wp_putC (pc := 14) dX11_hearGrant_14 fl_X11_303_4 (hR.mm (i := 20 * w + t) hm) (Or.inl rfl) (Nat.le_of_ble_eq_true rfl) rfl rfl rfl (fun h hq1 hq2 => ?_)
    have hR := hR.k6 (M' := sI (M) 32 (20 * w + t) (0)) ((chg.refl _ _ _ _).sI (by decide) _) (vl_6.mpr hm) (by rw [hq1]; simp [cc, cMm, sI, sL, sS, fu]) hq2
    refine wp_aload_n (pc := 17) dX11_hearGrant_17 rfl rfl ?_
    refine wp_get (pc := 18) dX11_hearGrant_18 fl_X11_240_3 (hR.lt hj) rfl ?_
    refine wp_iload (pc := 21) dX11_hearGrant_21 rfl ?_
    refine wp_i2l (pc := 23) dX11_hearGrant_23 ?_
    refine wp_ladd (pc := 24) dX11_hearGrant_24 ?_
    refine wp_lstore (pc := 25) (lv' := [_, _, _, _, _, _, _]) dX11_hearGrant_25 (Nat.le_of_ble_eq_true rfl) rfl rfl ?_
    refine wp_lload (pc := 27) dX11_hearGrant_27 rfl ?_
    refine wp_lload_n (pc := 29) dX11_hearGrant_29 rfl rfl ?_
    refine wp_lcmp_le (pc := 30) (tgt := 41) dX11_hearGrant_30 dX11_hearGrant_31 (by decide) (fun c30 => ?_) (fun c30 => ?_)
    · have c30 : (sI M 32 (20 * w + t) 0).2.2 45 j + ((sI M 32 (20 * w + t) 0).2.1 13 t).toInt64 ≤ wClk (sI M 32 (20 * w + t) 0) w := c30
      exact wp_vret (pc := 41) dX11_hearGrant_41 rfl ⟨rfl, by rw [if_pos ((isMn_i hmk).mpr c8)]; unfold twG; simp only; rw [if_pos c30]; exact hR⟩
    · have c30 : ¬ (sI M 32 (20 * w + t) 0).2.2 45 j + ((sI M 32 (20 * w + t) 0).2.1 13 t).toInt64 ≤ wClk (sI M 32 (20 * w + t) 0) w := c30
      refine wp_aload_n (pc := 34) dX11_hearGrant_34 rfl rfl ?_
      refine wp_aload_n (pc := 35) dX11_hearGrant_35 rfl rfl ?_
      refine wp_lload (pc := 36) dX11_hearGrant_36 rfl ?_
      refine wc_VN (pc := 38) (μ2 := mX3_keep) (rc := 0) (rs := 0) [_, _] dX11_hearGrant_38 rfl (hR.mm (i := 20 * w + t) hm) rfl cv_X11_503_4 rfl ⟨(Nat.le_of_ble_eq_true rfl), (Nat.le_of_ble_eq_true rfl)⟩ (Nat.le_of_ble_eq_true rfl) (c_keep (M := sI M 32 (20 * w + t) 0) l G _ hR hj hm) (fun h q => ?_)
      have hR := q
      exact wp_vret (pc := 41) dX11_hearGrant_41 rfl ⟨rfl, by rw [if_pos ((isMn_i hmk).mpr c8)]; unfold twG; simp only; rw [if_neg c30]; exact hR⟩
  · skip
    exact wp_vret (pc := 11) dX11_hearGrant_11 rfl ⟨rfl, by rw [if_neg (fun z => c8 ((isMn_i hmk).mp z))]; exact hR⟩
theorem c_hearRefusal {j w t : Nat} (hR : RH G hp A M h) (hj : j < nx (M.1 35)) (hm : 20 * w + t < 20 * nx (M.1 6)) (hmk : ¬ M.2.1 43 j = 0) : SpN l G mX11_hearRefusal [.ref (A.1 9 j), .ref (A.1 6 (20 * w + t))] h (fun h' => RH G hp A (sI M 32 (20 * w + t) (if isMn M j (20 * w + t) = true then 0 else M.2.1 32 (20 * w + t))) h') := by
  refine Sp.intro (lv := [_, _]) (by decide) rfl (Nat.le_of_ble_eq_true rfl) ?_
  refine wp_widen (rc' := 0) (rs' := 0) (Nat.le_refl _) (Nat.le_refl _) ?_
  refine wp_aload_n (pc := 0) dX11_hearRefusal_0 rfl rfl ?_
  refine wp_get (pc := 1) dX11_hearRefusal_1 fl_X11_303_4 (hR.mm (i := 20 * w + t) hm) rfl ?_
  refine wp_aload_n (pc := 4) dX11_hearRefusal_4 rfl rfl ?_
  refine wp_get (pc := 5) dX11_hearRefusal_5 fl_X11_243_3 (hR.lt hj) rfl ?_
  refine wp_icmp_ne (pc := 8) (tgt := 16) dX11_hearRefusal_8 (by decide) (fun c8 => ?_) (fun c8 => ?_)
  · skip
    exact wp_vret (pc := 16) dX11_hearRefusal_16 rfl ⟨rfl, by rw [if_neg (fun z => c8 ((isMn_i hmk).mp z)), sI_self rfl]; exact hR⟩
  · skip
    refine wp_aload_n (pc := 11) dX11_hearRefusal_11 rfl rfl ?_
    refine wp_iconst (pc := 12) (v := 0) dX11_hearRefusal_12 (by decide) ?_
    refine wp_putC (pc := 13) dX11_hearRefusal_13 fl_X11_303_4 (hR.mm (i := 20 * w + t) hm) (Or.inl rfl) (Nat.le_of_ble_eq_true rfl) rfl rfl rfl (fun h hq1 hq2 => ?_)
    have hR := hR.k6 (M' := sI (M) 32 (20 * w + t) (0)) ((chg.refl _ _ _ _).sI (by decide) _) (vl_6.mpr hm) (by rw [hq1]; simp [cc, cMm, sI, sL, sS, fu]) hq2
    exact wp_vret (pc := 16) dX11_hearRefusal_16 rfl ⟨rfl, by rw [if_pos ((isMn_i hmk).mpr c8)]; exact hR⟩
theorem c_hearLate {j w t : Nat} (hR : RH G hp A M h) (hj : j < nx (M.1 35)) (hm : 20 * w + t < 20 * nx (M.1 6)) (h01 : M.2.1 29 (20 * w + t) = 0 ∨ M.2.1 29 (20 * w + t) = 1) : SpN l G mX11_hearLate [.ref (A.1 9 j), .ref (A.1 6 (20 * w + t))] h (fun h' => RH G hp A (sI M 29 (20 * w + t) (if M.2.1 29 (20 * w + t) = 0 then 0 else if M.2.2 33 (20 * w + t) = M.2.2 44 j then 0 else 1)) h') := by
  refine Sp.intro (lv := [_, _]) (by decide) rfl (Nat.le_of_ble_eq_true rfl) ?_
  refine wp_widen (rc' := 0) (rs' := 0) (Nat.le_refl _) (Nat.le_refl _) ?_
  refine wp_aload_n (pc := 0) dX11_hearLate_0 rfl rfl ?_
  refine wp_get (pc := 1) dX11_hearLate_1 fl_X11_196_4 (hR.mm (i := 20 * w + t) hm) rfl ?_
  refine wp_aload_n (pc := 4) dX11_hearLate_4 rfl rfl ?_
  refine wp_get (pc := 5) dX11_hearLate_5 fl_X11_235_3 (hR.lt hj) rfl ?_
  refine wp_lcmp_ne (pc := 8) (tgt := 17) dX11_hearLate_8 dX11_hearLate_9 (by decide) (fun c8 => ?_) (fun c8 => ?_)
  · skip
    exact wp_vret (pc := 17) dX11_hearLate_17 rfl ⟨rfl, by rw [if_neg c8, sI_self (by rcases h01 with z | z <;> rw [z] <;> rfl)]; exact hR⟩
  · skip
    refine wp_aload_n (pc := 12) dX11_hearLate_12 rfl rfl ?_
    refine wp_iconst (pc := 13) (v := 0) dX11_hearLate_13 (by decide) ?_
    refine wp_putC (pc := 14) dX11_hearLate_14 fl_X11_135_4 (hR.mm (i := 20 * w + t) hm) (Or.inl rfl) (Nat.le_of_ble_eq_true rfl) rfl rfl rfl (fun h hq1 hq2 => ?_)
    have hR := hR.k6 (M' := sI (M) 29 (20 * w + t) (0)) ((chg.refl _ _ _ _).sI (by decide) _) (vl_6.mpr hm) (by rw [hq1]; simp [cc, cMm, sI, sL, sS, fu]) hq2
    exact wp_vret (pc := 17) dX11_hearLate_17 rfl ⟨rfl, by rw [if_pos c8, ite_self]; exact hR⟩
theorem c_reachWorker {j w t : Nat} (hR : RH G hp A M h) (hb : bnd M) (hj : j < nx (M.1 35)) (hw : w < nx (M.1 6)) (hwj : M.2.1 37 j = nI w) (ht : t < nx (M.1 11)) (htj : M.2.1 39 j = nI t) (hmk : M.2.1 36 j = 4 ∨ M.2.1 36 j = 5 → ¬ M.2.1 43 j = 0) (h01 : M.2.1 29 (20 * w + t) = 0 ∨ M.2.1 29 (20 * w + t) = 1) : SpV l G mX11_reachWorker [.ref (A.1 0 0), .ref (A.1 9 j)] h (fun r h' => r = .int (rwF M j).1 ∧ RH G hp A (rwF M j).2 h') := by
  refine Sp.intro (lv := [_, _, _, _, _]) (by decide) rfl (Nat.le_of_ble_eq_true rfl) ?_
  refine wp_widen (rc' := 0) (rs' := 0) (Nat.le_refl _) (Nat.le_refl _) ?_
  have hb9 := hb
  unfold bnd at hb9
  have hm : 20 * w + t < 20 * nx (M.1 6) := by omega
  have hwx : nx (M.2.1 37 j) = w := by rw [hwj]; exact nx_nI (by omega)
  have htx : nx (M.2.1 39 j) = t := by rw [htj]; exact nx_nI (by omega)
  refine wp_aload_n (pc := 0) dX11_reachWorker_0 rfl rfl ?_
  refine wp_aload_n (pc := 1) dX11_reachWorker_1 rfl rfl ?_
  refine wp_get (pc := 2) dX11_reachWorker_2 fl_X11_224_3 (hR.lt hj) rfl ?_
  refine wc_VP (pc := 5) (μ2 := mX11_workerAt) (rc := 0) (rs := 0) [_] dX11_reachWorker_5 rfl hR.bd rfl cv_X11_127_12 rfl ⟨(Nat.le_of_ble_eq_true rfl), (Nat.le_of_ble_eq_true rfl)⟩ (Nat.le_of_ble_eq_true rfl) (c_workerAt l G _ hR hb) ?_
  rw [hwj, oAt_t hw (by omega)]
  refine wp_astore_n (pc := 8) (lv' := [_, _, _, _, _]) dX11_reachWorker_8 rfl (Nat.le_of_ble_eq_true rfl) rfl rfl ?_
  refine wp_aload_n (pc := 9) dX11_reachWorker_9 rfl rfl ?_
  refine wp_aload_n (pc := 10) dX11_reachWorker_10 rfl rfl ?_
  refine wp_get (pc := 11) dX11_reachWorker_11 fl_X11_224_3 (hR.lt hj) rfl ?_
  refine wp_aload_n (pc := 14) dX11_reachWorker_14 rfl rfl ?_
  refine wp_get (pc := 15) dX11_reachWorker_15 fl_X11_230_3 (hR.lt hj) rfl ?_
  refine wc_VP (pc := 18) (μ2 := mX11_memoryAt) (rc := 0) (rs := 0) [_, _] dX11_reachWorker_18 rfl hR.bd rfl cv_X11_186_12 rfl ⟨(Nat.le_of_ble_eq_true rfl), (Nat.le_of_ble_eq_true rfl)⟩ (Nat.le_of_ble_eq_true rfl) (c_memoryAt l G _ _ hR hb) ?_
  rw [hwj, htj, mAt_t hb hw ht]
  refine wp_astore_n (pc := 21) (lv' := [_, _, _, _, _]) dX11_reachWorker_21 rfl (Nat.le_of_ble_eq_true rfl) rfl rfl ?_
  refine wp_aload_n (pc := 22) dX11_reachWorker_22 rfl rfl ?_
  refine wp_aload_n (pc := 23) dX11_reachWorker_23 rfl rfl ?_
  refine wp_get (pc := 24) dX11_reachWorker_24 fl_X11_230_3 (hR.lt hj) rfl ?_
  refine wc_VP (pc := 27) (μ2 := mX11_thingAt) (rc := 0) (rs := 0) [_] dX11_reachWorker_27 rfl hR.bd rfl cv_X11_156_12 rfl ⟨(Nat.le_of_ble_eq_true rfl), (Nat.le_of_ble_eq_true rfl)⟩ (Nat.le_of_ble_eq_true rfl) (c_thingAt l G _ hR hb) ?_
  rw [htj, oAt_t ht (by omega)]
  refine wp_astore (pc := 30) (lv' := [_, _, _, _, _]) dX11_reachWorker_30 (Nat.le_of_ble_eq_true rfl) rfl rfl ?_
  refine wp_aload_n (pc := 32) dX11_reachWorker_32 rfl rfl ?_
  refine wp_ifnullR (pc := 33) dX11_reachWorker_33 ?_
  refine wp_aload_n (pc := 36) dX11_reachWorker_36 rfl rfl ?_
  refine wp_ifnullR (pc := 37) dX11_reachWorker_37 ?_
  refine wp_aload (pc := 40) dX11_reachWorker_40 rfl ?_
  refine wp_ifnullR (pc := 42) dX11_reachWorker_42 ?_
  refine wp_aload_n (pc := 45) dX11_reachWorker_45 rfl rfl ?_
  refine wp_get (pc := 46) dX11_reachWorker_46 fl_X11_143_11 (hR.wk hw) rfl ?_
  refine wp_if_ne (pc := 49) (tgt := 54) dX11_reachWorker_49 (by decide) (fun c49 => ?_) (fun c49 => ?_)
  · have hf : rwF M j = (1, twM M j) := by unfold rwF; rw [hwx, if_neg c49]
    refine wp_aload_n (pc := 54) dX11_reachWorker_54 rfl rfl ?_
    refine wp_get (pc := 55) dX11_reachWorker_55 fl_X11_221_3 (hR.lt hj) rfl ?_
    refine wp_tsw_4_7 (pc := 58) dX11_reachWorker_58 (t0 := 88) (t1 := 109) (t2 := 125) (t3 := 117) (td := 125) (by decide) (by decide) (by decide) (by decide) (by decide) (fun c58 => ?_) (fun c58 => ?_) (fun c58 => ?_) (fun c58 => ?_) (fun c58 => ?_)
    · have hS : twM M j = (if isMn M j (20 * w + t) = true then twG M j w t else M) := by unfold twM; simp only; rw [hwx, htx, if_pos c58]
      refine wp_aload_n (pc := 88) dX11_reachWorker_88 rfl rfl ?_
      refine wp_aload_n (pc := 89) dX11_reachWorker_89 rfl rfl ?_
      refine wp_aload_n (pc := 90) dX11_reachWorker_90 rfl rfl ?_
      refine wp_aload_n (pc := 91) dX11_reachWorker_91 rfl rfl ?_
      refine wp_get (pc := 92) dX11_reachWorker_92 fl_X11_43_12 hR.bd rfl ?_
      refine wc_UP (pc := 95) (μ2 := mX5_shows) (rc := 0) (rs := 0) [_] dX11_reachWorker_95 rfl (hR.wk hw) rfl cu_X11_408_11 rfl ⟨(Nat.le_of_ble_eq_true rfl), (Nat.le_of_ble_eq_true rfl)⟩ (Nat.le_of_ble_eq_true rfl) (c_shows11 l G _ (hR.wk hw)) ?_
      refine wp_aload (pc := 98) dX11_reachWorker_98 rfl ?_
      refine wp_getT (pc := 100) dX11_reachWorker_100 ft_X11_271 (hR.th ht) rfl ?_
      refine wc_SN (pc := 103) (μ2 := mX11_hearGrant) (rc := 0) (rs := 0) [_, _, _, _] dX11_reachWorker_103 rfl cs_X11_492 rfl ⟨(Nat.le_of_ble_eq_true rfl), (Nat.le_of_ble_eq_true rfl)⟩ (Nat.le_of_ble_eq_true rfl) (c_hearGrant l G hR hj hm (hmk (Or.inl c58))) (fun h q => ?_)
      have hR := q
      refine wp_goto (pc := 106) (tgt := 135) dX11_reachWorker_106 (by decide) ?_
      refine wp_iconst (pc := 135) (v := 1) dX11_reachWorker_135 (by decide) ?_
      exact wp_iret (pc := 136) dX11_reachWorker_136 rfl ⟨_, rfl, by rw [hf], by rw [hf, hS]; exact hR⟩
    · have hS : twM M j = sI M 32 (20 * w + t) (if isMn M j (20 * w + t) = true then 0 else M.2.1 32 (20 * w + t)) := by unfold twM; simp only; rw [hwx, htx, if_neg (by rw [c58]; decide), if_pos c58]
      refine wp_aload_n (pc := 109) dX11_reachWorker_109 rfl rfl ?_
      refine wp_aload_n (pc := 110) dX11_reachWorker_110 rfl rfl ?_
      refine wc_SN (pc := 111) (μ2 := mX11_hearRefusal) (rc := 0) (rs := 0) [_, _] dX11_reachWorker_111 rfl cs_X11_496 rfl ⟨(Nat.le_of_ble_eq_true rfl), (Nat.le_of_ble_eq_true rfl)⟩ (Nat.le_of_ble_eq_true rfl) (c_hearRefusal l G hR hj hm (hmk (Or.inr c58))) (fun h q => ?_)
      have hR := q
      refine wp_goto (pc := 114) (tgt := 135) dX11_reachWorker_114 (by decide) ?_
      refine wp_iconst (pc := 135) (v := 1) dX11_reachWorker_135 (by decide) ?_
      exact wp_iret (pc := 136) dX11_reachWorker_136 rfl ⟨_, rfl, by rw [hf], by rw [hf, hS]; exact hR⟩
    · have hS : twM M j = sS M 52 (M.1 52 + 1) := by unfold twM; simp only; rw [hwx, htx, if_neg (by rw [c58]; decide), if_neg (by rw [c58]; decide), if_neg (by rw [c58]; decide)]
      refine wp_aload_n (pc := 125) dX11_reachWorker_125 rfl rfl ?_
      refine wp_dup (pc := 126) dX11_reachWorker_126 rfl ?_
      refine wp_get (pc := 127) dX11_reachWorker_127 fl_X11_61_12 hR.bd rfl ?_
      refine wp_iconst (pc := 130) (v := 1) dX11_reachWorker_130 (by decide) ?_
      refine wp_iadd (pc := 131) dX11_reachWorker_131 ?_
      refine wp_putC (pc := 132) dX11_reachWorker_132 fl_X11_61_12 hR.bd (Or.inl rfl) (Nat.le_of_ble_eq_true rfl) rfl rfl rfl (fun h hq1 hq2 => ?_)
      have hR := hR.k0 (M' := sS (M) 52 (M.1 52 + 1)) rfl rfl rfl rfl rfl rfl hq1 hq2
      refine wp_iconst (pc := 135) (v := 1) dX11_reachWorker_135 (by decide) ?_
      exact wp_iret (pc := 136) dX11_reachWorker_136 rfl ⟨_, rfl, by rw [hf], by rw [hf, hS]; exact hR⟩
    · have hS : twM M j = sI M 29 (20 * w + t) (if M.2.1 29 (20 * w + t) = 0 then 0 else if M.2.2 33 (20 * w + t) = M.2.2 44 j then 0 else 1) := by unfold twM; simp only; rw [hwx, htx, if_neg (by rw [c58]; decide), if_neg (by rw [c58]; decide), if_pos c58]
      refine wp_aload_n (pc := 117) dX11_reachWorker_117 rfl rfl ?_
      refine wp_aload_n (pc := 118) dX11_reachWorker_118 rfl rfl ?_
      refine wc_SN (pc := 119) (μ2 := mX11_hearLate) (rc := 0) (rs := 0) [_, _] dX11_reachWorker_119 rfl cs_X11_500 rfl ⟨(Nat.le_of_ble_eq_true rfl), (Nat.le_of_ble_eq_true rfl)⟩ (Nat.le_of_ble_eq_true rfl) (c_hearLate l G hR hj hm h01) (fun h q => ?_)
      have hR := q
      refine wp_goto (pc := 122) (tgt := 135) dX11_reachWorker_122 (by decide) ?_
      refine wp_iconst (pc := 135) (v := 1) dX11_reachWorker_135 (by decide) ?_
      exact wp_iret (pc := 136) dX11_reachWorker_136 rfl ⟨_, rfl, by rw [hf], by rw [hf, hS]; exact hR⟩
    · have hS : twM M j = sS M 52 (M.1 52 + 1) := by unfold twM; simp only; rw [hwx, htx, if_neg (sw_ne c58 (by decide)), if_neg (sw_ne c58 (by decide)), if_neg (sw_ne c58 (by decide))]
      refine wp_aload_n (pc := 125) dX11_reachWorker_125 rfl rfl ?_
      refine wp_dup (pc := 126) dX11_reachWorker_126 rfl ?_
      refine wp_get (pc := 127) dX11_reachWorker_127 fl_X11_61_12 hR.bd rfl ?_
      refine wp_iconst (pc := 130) (v := 1) dX11_reachWorker_130 (by decide) ?_
      refine wp_iadd (pc := 131) dX11_reachWorker_131 ?_
      refine wp_putC (pc := 132) dX11_reachWorker_132 fl_X11_61_12 hR.bd (Or.inl rfl) (Nat.le_of_ble_eq_true rfl) rfl rfl rfl (fun h hq1 hq2 => ?_)
      have hR := hR.k0 (M' := sS (M) 52 (M.1 52 + 1)) rfl rfl rfl rfl rfl rfl hq1 hq2
      refine wp_iconst (pc := 135) (v := 1) dX11_reachWorker_135 (by decide) ?_
      exact wp_iret (pc := 136) dX11_reachWorker_136 rfl ⟨_, rfl, by rw [hf], by rw [hf, hS]; exact hR⟩
  · skip
    refine wp_iconst (pc := 52) (v := 0) dX11_reachWorker_52 (by decide) ?_
    exact wp_iret (pc := 53) dX11_reachWorker_53 rfl ⟨_, rfl, by unfold rwF; rw [hwx, if_pos c49], by unfold rwF; rw [hwx, if_pos c49]; exact hR⟩
theorem c_isToKeeper {j : Nat} (hR : RH G hp A M h) (hj : j < nx (M.1 35)) : SpP l G mX2_isToKeeper [.ref (A.1 9 j)] h (.int (bi (decide (M.2.1 36 j < 4)))) := by
  refine Sp.intro (lv := [_]) (by decide) rfl (Nat.le_of_ble_eq_true rfl) ?_
  refine wp_widen (rc' := 0) (rs' := 0) (Nat.le_refl _) (Nat.le_refl _) ?_
  refine wp_aload_n (pc := 0) dX2_isToKeeper_0 rfl rfl ?_
  refine wp_get (pc := 1) dX2_isToKeeper_1 fl_X2_31_3 (hR.lt hj) rfl ?_
  refine wp_iconst (pc := 4) (v := 3) dX2_isToKeeper_4 (by decide) ?_
  refine wp_icmp_gt (pc := 5) (tgt := 12) dX2_isToKeeper_5 (by decide) (fun c5 => ?_) (fun c5 => ?_)
  · skip
    refine wp_iconst (pc := 12) (v := 0) dX2_isToKeeper_12 (by decide) ?_
    exact wp_zret (pc := 13) dX2_isToKeeper_13 rfl (by decide) ⟨by rw [decide_eq_false ((le3_lt4 _).mp c5)]; rfl, rfl⟩
  · skip
    refine wp_iconst (pc := 8) (v := 1) dX2_isToKeeper_8 (by decide) ?_
    refine wp_goto (pc := 9) (tgt := 13) dX2_isToKeeper_9 (by decide) ?_
    exact wp_zret (pc := 13) dX2_isToKeeper_13 rfl (by decide) ⟨by rw [decide_eq_true (Decidable.byContradiction (fun z => c5 ((le3_lt4 _).mpr z)))]; rfl, rfl⟩
theorem le397 {M : MS} (hL : M.1 35 = nI (nx (M.1 35))) (hb : nx (M.1 35) ≤ 400) : M.1 35 + 3 ≤ 400 ↔ nx (M.1 35) + 3 ≤ 400 := by
  have e : M.1 35 + 3 = nI (nx (M.1 35) + 3) := by
    conv => lhs; rw [hL]
    rw [show (3 : Int32) = nI 3 from rfl, nI_add]
  rw [e, show (400 : Int32) = nI 400 from rfl, nI_leI (by omega) (by decide)]
theorem k_deliver (v : Int32) (hR : RH G hp A M h) (hb : bnd M) (hK : M.1 2 = nI (nx (M.1 2))) (hT : tidy M) (hL : M.1 35 = nI (nx (M.1 35))) (hTh : ∀ t, t < nx (M.1 11) → thI M t) (hLd : M.1 27 = -1 ∨ ∃ k, k < nx (M.1 2) ∧ M.1 27 = nI k ∧ ¬ M.2.1 5 k = 0) (hLt : ∀ j, j < nx (M.1 35) → ∃ w t b : Nat, w < nx (M.1 6) ∧ t < nx (M.1 11) ∧ b < nx (M.1 2) ∧ M.2.1 37 j = nI w ∧ M.2.1 39 j = nI t ∧ M.2.1 38 j = nI b ∧ (M.2.1 36 j < 4 → ¬ M.2.1 36 j = 0 → ¬ M.2.1 36 j = 1 → ¬ M.2.1 36 j = 2 → M.2.1 12 t = 3) ∧ (M.2.1 36 j = 4 ∨ M.2.1 36 j = 5 → ¬ M.2.1 43 j = 0) ∧ (M.2.1 29 (20 * w + t) = 0 ∨ M.2.1 29 (20 * w + t) = 1)) (hG : ∀ j t, j < nx (M.1 35) → t < nx (M.1 11) → M.2.1 39 j = nI t → (gof (looksM (sI M 42 j 1) t) t ((looksM (sI M 42 j 1) t).2.1 37 j) (nx ((looksM (sI M 42 j 1) t).2.1 21 t)) = none → nx ((looksM (sI M 42 j 1) t).2.1 21 t) < 20) ∧ ∀ p q, p < nx ((looksM (sI M 42 j 1) t).2.1 21 t) → q < nx ((looksM (sI M 42 j 1) t).2.1 21 t) → (looksM (sI M 42 j 1) t).2.1 22 (20 * t + p) = (looksM (sI M 42 j 1) t).2.1 22 (20 * t + q) → p = q) : KS l G hp A mX11_deliver [.int v] M h (.int (f_deliver M v).1) ((f_deliver M v).2) := by
  refine Sp.intro (lv := [_, _, _]) (by decide) rfl (Nat.le_of_ble_eq_true rfl) ?_
  refine wp_widen (rc' := 6) (rs' := 1825) (Nat.le_refl _) (Nat.le_refl _) ?_
  have hb9 := hb
  unfold bnd at hb9
  refine wp_aload_n (pc := 0) dX11_deliver_0 rfl rfl ?_
  refine wp_iload_n (pc := 1) dX11_deliver_1 rfl rfl ?_
  refine wc_VP (pc := 2) (μ2 := mX11_letterAt) (rc := 6) (rs := 1825) [_] dX11_deliver_2 rfl hR.bd rfl cv_X11_205_12 rfl ⟨(Nat.le_of_ble_eq_true rfl), (Nat.le_of_ble_eq_true rfl)⟩ (Nat.le_of_ble_eq_true rfl) (c_letterAt l G _ hR hb) ?_
  refine wp_astore_nQ (pc := 5) (lv' := [_, _, _]) dX11_deliver_5 rfl (Nat.le_of_ble_eq_true rfl) rfl rfl ?_
  refine wp_aload_nQ (pc := 6) dX11_deliver_6 rfl rfl ?_
  refine wp_ifnonnull (pc := 7) (tgt := 13) dX11_deliver_7 (by decide) (fun a7 c7 => ?_) (fun c7 => ?_)
  · obtain ⟨j, hj, rfl, rfl⟩ := oAt_s c7 (by omega)
    rw [oAt_t hj (by omega)]
    have hix := isIx_nI hj (show nx (M.1 35) < 2 ^ 31 by omega)
    have e1 : nx (nI j) = j := nx_nI (by omega)
    refine wp_aload_n (pc := 13) dX11_deliver_13 rfl rfl ?_
    refine wp_get (pc := 14) dX11_deliver_14 fl_X11_209_3 (hR.lt hj) rfl ?_
    refine wp_if_eq (pc := 17) (tgt := 23) dX11_deliver_17 (by decide) (fun c17 => ?_) (fun c17 => ?_)
    · skip
      refine wp_aload_n (pc := 23) dX11_deliver_23 rfl rfl ?_
      refine wp_iconst (pc := 24) (v := 3) dX11_deliver_24 (by decide) ?_
      refine wc_VP (pc := 25) (μ2 := mX11_hasRoomFor) (rc := 6) (rs := 1825) [_] dX11_deliver_25 rfl hR.bd rfl cv_X11_165_12 rfl ⟨(Nat.le_of_ble_eq_true rfl), (Nat.le_of_ble_eq_true rfl)⟩ (Nat.le_of_ble_eq_true rfl) (c_hasRoomFor l G 3 hR hb (by decide)) ?_
      refine wp_ifB_ne (pc := 28) (tgt := 34) dX11_deliver_28 (by decide) (fun c28 => ?_) (fun c28 => ?_)
      · have h28 : nx (M.1 35) + 3 ≤ 400 := of_decide_eq_true c28
        obtain ⟨w, t, b, hw, ht, hbK, hwj, htj, hkb, hk3, hmk, h01⟩ := hLt j hj
        refine wp_aload_n (pc := 34) dX11_deliver_34 rfl rfl ?_
        refine wp_iconst (pc := 35) (v := 1) dX11_deliver_35 (by decide) ?_
        refine wp_putC (pc := 36) dX11_deliver_36 fl_X11_209_3 (hR.lt hj) (Or.inl rfl) (Nat.le_of_ble_eq_true rfl) rfl rfl rfl (fun h hq1 hq2 => ?_)
        have hR := hR.k9 (M' := sI (M) 42 (j) (1)) ((chg.refl _ _ _ _).sI (by decide) _) (vl_9.mpr hj) (by rw [hq1]; simp [cc, cLt, sI, sL, sS, fu]) hq2
        refine wp_aload_n (pc := 39) dX11_deliver_39 rfl rfl ?_
        refine wc_VP (pc := 40) (μ2 := mX2_isToKeeper) (rc := 6) (rs := 1825) [] dX11_deliver_40 rfl (hR.lt hj) rfl cv_X11_212_3 rfl ⟨(Nat.le_of_ble_eq_true rfl), (Nat.le_of_ble_eq_true rfl)⟩ (Nat.le_of_ble_eq_true rfl) (c_isToKeeper (M := sI M 42 j 1) l G hR hj) ?_
        refine wp_ifB_eq (pc := 43) (tgt := 54) dX11_deliver_43 (by decide) (fun c43 => ?_) (fun c43 => ?_)
        · have d43 : ¬ M.2.1 36 j < 4 := of_decide_eq_false c43
          have hf : f_deliver M (nI j) = rwF (sI M 42 j 1) j := by
            unfold f_deliver rwF
            rw [if_neg (by rw [hix]; decide), e1, if_pos c17, if_pos ((le397 hL hb9.2.2.2.1).mpr h28), if_neg d43]
            rfl
          refine wp_aload_n (pc := 54) dX11_deliver_54 rfl rfl ?_
          refine wp_aload_n (pc := 55) dX11_deliver_55 rfl rfl ?_
          refine wc_VV (pc := 56) (μ2 := mX11_reachWorker) (rc := 6) (rs := 1825) [_] dX11_deliver_56 rfl hR.bd rfl cv_X11_218_12 rfl ⟨(Nat.le_of_ble_eq_true rfl), (Nat.le_of_ble_eq_true rfl)⟩ (Nat.le_of_ble_eq_true rfl) (c_reachWorker (M := sI M 42 j 1) l G hR (bnd_of rfl rfl rfl rfl rfl hb) hj hw hwj ht htj hmk h01) (fun r h q => ?_)
          obtain ⟨rfl, hR⟩ := q
          obtain ⟨A9, e9⟩ : ∃ A9, A9 = A := ⟨_, rfl⟩
          have hE : ext A M A9 := by rw [e9]; exact ext.refl A M
          rw [← e9] at hR
          exact wp_iret (pc := 59) dX11_deliver_59 rfl ⟨_, rfl, by rw [hf], A9, by rw [hf]; exact hR, hE⟩
        · have d43 : M.2.1 36 j < 4 := of_decide_eq_true c43
          have hf : f_deliver M (nI j) = rkF (sI M 42 j 1) j := by
            unfold f_deliver rkF
            rw [if_neg (by rw [hix]; decide), e1, if_pos c17, if_pos ((le397 hL hb9.2.2.2.1).mpr h28), if_pos d43, show isMst (sI M 42 j 1) = isMst M from isMst_congr rfl rfl]
            rfl
          refine wp_aload_n (pc := 46) dX11_deliver_46 rfl rfl ?_
          refine wp_aload_n (pc := 47) dX11_deliver_47 rfl rfl ?_
          refine wc_VV (pc := 48) (μ2 := mX11_reachKeeper) (rc := 0) (rs := 0) [_] dX11_deliver_48 rfl hR.bd rfl cv_X11_215_12 rfl ⟨(Nat.le_of_ble_eq_true rfl), (Nat.le_of_ble_eq_true rfl)⟩ (Nat.le_of_ble_eq_true rfl) (c_reachKeeper (M := sI M 42 j 1) l G hR (bnd_of rfl rfl rfl rfl rfl hb) hK (tidy_3 hT rfl rfl rfl rfl rfl) hL h28 hj ht htj (hTh t ht) hbK hkb hLd (by rw [show (sI M 42 j 1).2.1 37 j = nI w from hwj]; exact nI_m1 (by omega)) (hk3 d43) (hG j t hj ht htj).1 (hG j t hj ht htj).2) (fun r h q => ?_)
          obtain ⟨rfl, A9, hR, hE9⟩ := q
          have hE : ext A M A9 := fun k i a b v => hE9 k i a b (vld_grw (grw.of rfl (fun _ => rfl) (fun _ => rfl)) a b v)
          refine wp_goto (pc := 51) (tgt := 59) dX11_deliver_51 (by decide) ?_
          exact wp_iret (pc := 59) dX11_deliver_59 rfl ⟨_, rfl, by rw [hf], A9, by rw [hf]; exact hR, hE⟩
      · skip
        refine wp_bipush (pc := 31) (v := (-4)) dX11_deliver_31 (by decide) ?_
        exact wp_iret (pc := 33) dX11_deliver_33 rfl ⟨_, rfl, by unfold f_deliver; rw [if_neg (by rw [hix]; decide), e1, if_pos c17, if_neg (fun z => of_decide_eq_false c28 ((le397 hL hb9.2.2.2.1).mp z))], A, by unfold f_deliver; rw [if_neg (by rw [hix]; decide), e1, if_pos c17, if_neg (fun z => of_decide_eq_false c28 ((le397 hL hb9.2.2.2.1).mp z))]; exact hR, ext.refl A M⟩
    · skip
      refine wp_bipush (pc := 20) (v := (-3)) dX11_deliver_20 (by decide) ?_
      exact wp_iret (pc := 22) dX11_deliver_22 rfl ⟨_, rfl, by unfold f_deliver; rw [if_neg (by rw [hix]; decide), e1, if_neg c17], A, by unfold f_deliver; rw [if_neg (by rw [hix]; decide), e1, if_neg c17]; exact hR, ext.refl A M⟩
  · skip
    refine wp_bipush (pc := 10) (v := (-2)) dX11_deliver_10 (by decide) ?_
    exact wp_iret (pc := 12) dX11_deliver_12 rfl ⟨_, rfl, by unfold f_deliver; rw [if_pos (oAt_n c7)], A, by unfold f_deliver; rw [if_pos (oAt_n c7)]; exact hR, ext.refl A M⟩
end K28
