/-! ===== the class: more small methods ===== -/
section K2
variable (l : Launch) (G : WG) {hp h : Hp} {A : AD} {M : MS}
/-- what a clock shows -/
def shw (b r t : Int32) : Int64 := b.toInt64 + t.toInt64 * r.toInt64 / 1000
theorem c_shows6 {a : Nat} {b r t : Int32} {w : Value} (h : Hp) (ha : h a = some (oB 6 [.int b, .int r, w])) : SpP l G mX5_shows [.ref a, .int t] h (.long (shw b r t)) := by
  refine Sp.intro (lv := [_, _]) (by decide) rfl (Nat.le_of_ble_eq_true rfl) ?_
  refine wp_widen (rc' := 0) (rs' := 0) (Nat.le_refl _) (Nat.le_refl _) ?_
  refine wp_aload_n (pc := 0) dX5_shows_0 rfl rfl ?_
  refine wp_get (pc := 1) dX5_shows_1 fl_X5_13_6 ha rfl ?_
  refine wp_i2l (pc := 4) dX5_shows_4 ?_
  refine wp_iload_n (pc := 5) dX5_shows_5 rfl rfl ?_
  refine wp_i2l (pc := 6) dX5_shows_6 ?_
  refine wp_aload_n (pc := 7) dX5_shows_7 rfl rfl ?_
  refine wp_get (pc := 8) dX5_shows_8 fl_X5_17_6 ha rfl ?_
  refine wp_i2l (pc := 11) dX5_shows_11 ?_
  refine wp_lmul (pc := 12) dX5_shows_12 ?_
  refine wp_ldc2_w (pc := 13) dX5_shows_13 w2_219 ?_
  refine wp_ldiv (pc := 16) dX5_shows_16 (by decide) ?_
  refine wp_ladd (pc := 17) dX5_shows_17 ?_
  exact wp_lret (pc := 18) dX5_shows_18 rfl ⟨rfl, rfl⟩
theorem c_shows11 {a : Nat} {b r t : Int32} {w x1 x2 : Value} (h : Hp) (ha : h a = some (oB 11 [.int b, .int r, w, x1, x2])) : SpP l G mX5_shows [.ref a, .int t] h (.long (shw b r t)) := by
  refine Sp.intro (lv := [_, _]) (by decide) rfl (Nat.le_of_ble_eq_true rfl) ?_
  refine wp_widen (rc' := 0) (rs' := 0) (Nat.le_refl _) (Nat.le_refl _) ?_
  refine wp_aload_n (pc := 0) dX5_shows_0 rfl rfl ?_
  refine wp_get (pc := 1) dX5_shows_1 fl_X5_13_11 ha rfl ?_
  refine wp_i2l (pc := 4) dX5_shows_4 ?_
  refine wp_iload_n (pc := 5) dX5_shows_5 rfl rfl ?_
  refine wp_i2l (pc := 6) dX5_shows_6 ?_
  refine wp_aload_n (pc := 7) dX5_shows_7 rfl rfl ?_
  refine wp_get (pc := 8) dX5_shows_8 fl_X5_17_11 ha rfl ?_
  refine wp_i2l (pc := 11) dX5_shows_11 ?_
  refine wp_lmul (pc := 12) dX5_shows_12 ?_
  refine wp_ldc2_w (pc := 13) dX5_shows_13 w2_219 ?_
  refine wp_ldiv (pc := 16) dX5_shows_16 (by decide) ?_
  refine wp_ladd (pc := 17) dX5_shows_17 ?_
  exact wp_lret (pc := 18) dX5_shows_18 rfl ⟨rfl, rfl⟩
theorem c_memoryOf (hR : RH G hp A M h) (hb : bnd M) {w t : Nat} (hw : w < nx (M.1 6)) (ht : t < 20) : SpP l G mX10_memoryOf [.ref (A.1 4 w), .int (nI t)] h (.ref (A.1 6 (20 * w + t))) := by
  refine Sp.intro (lv := [_, _]) (by decide) rfl (Nat.le_of_ble_eq_true rfl) ?_
  refine wp_widen (rc' := 0) (rs' := 0) (Nat.le_refl _) (Nat.le_refl _) ?_
  have hb9 := hb
  unfold bnd at hb9
  refine wp_iload_n (pc := 0) dX10_memoryOf_0 rfl rfl ?_
  refine wp_if_lt (pc := 1) (tgt := 13) dX10_memoryOf_1 (by decide) (fun z => absurd z (nI_pos (by omega))) (fun _ => ?_)
  refine wp_iload_n (pc := 4) dX10_memoryOf_4 rfl rfl ?_
  refine wp_aload_n (pc := 5) dX10_memoryOf_5 rfl rfl ?_
  refine wp_get (pc := 6) dX10_memoryOf_6 fl_X10_11_11 (hR.wk hw) rfl ?_
  refine wp_alen (k := 4) (pc := 9) (by decide) dX10_memoryOf_9 (hR.mr hw) ?_
  refine wp_icmp_lt (pc := 10) (tgt := 17) dX10_memoryOf_10 (by decide) (fun _ => ?_) (fun z => absurd (nI_lt (b := 20) ht (by decide)) z)
  refine wp_aload_n (pc := 17) dX10_memoryOf_17 rfl rfl ?_
  refine wp_get (pc := 18) dX10_memoryOf_18 fl_X10_11_11 (hR.wk hw) rfl ?_
  refine wp_iload_n (pc := 21) dX10_memoryOf_21 rfl rfl ?_
  refine wp_aald (pc := 22) (i := t) (Or.inr (Or.inl rfl)) dX10_memoryOf_22 (hR.mr hw) ⟨rfl, ht, by decide⟩ ?_
  rw [lstF_i _ ht]
  exact wp_aret (r := some (A.1 6 (20 * w + t))) (pc := 23) dX10_memoryOf_23 rfl (Or.inl ⟨_, rfl⟩) ⟨rfl, rfl⟩
theorem oAt_s {A : AD} {k n a : Nat} {v : Int32} (h : oAt A k v n = some a) (hn : n < 2 ^ 31) : ∃ j, j < n ∧ v = nI j ∧ a = A.1 k j := by
  unfold oAt at h
  split at h
  · rename_i hi
    obtain ⟨j, hj, rfl⟩ := isIx_t hi hn
    cases h
    exact ⟨j, hj, rfl, by rw [nx_nI (by omega)]⟩
  · cases h
theorem oAt_n {A : AD} {k n : Nat} {v : Int32} (h : oAt A k v n = none) : isIx v n = false := by
  unfold oAt at h
  split at h
  · cases h
  · rename_i hi; simpa using hi
def pAt (A : AD) (M : MS) (what who : Int32) : Option Nat := if what = 0 then oAt A 3 who (nx (M.1 2)) else if what = 1 then oAt A 4 who (nx (M.1 6)) else none
def mAt (A : AD) (M : MS) (w t : Int32) : Option Nat := if isIx w (nx (M.1 6)) = true ∧ isIx t (nx (M.1 11)) = true then some (A.1 6 (20 * nx w + nx t)) else none
def gAt (A : AD) (M : MS) (t i : Int32) : Option Nat := if isIx t (nx (M.1 11)) = true ∧ isIx i (nx (M.2.1 21 (nx t))) = true then some (A.1 8 (20 * nx t + nx i)) else none
theorem c_partyAt (what who : Int32) (hR : RH G hp A M h) (hb : bnd M) : SpP l G mX11_partyAt [.ref (A.1 0 0), .int what, .int who] h (va_rf (pAt A M what who)) := by
  refine Sp.intro (lv := [_, _, _]) (by decide) rfl (Nat.le_of_ble_eq_true rfl) ?_
  refine wp_widen (rc' := 0) (rs' := 0) (Nat.le_refl _) (Nat.le_refl _) ?_
  refine wp_iload_n (pc := 0) dX11_partyAt_0 rfl rfl ?_
  refine wp_lsw01 (pc := 1) (t0 := 28) (t1 := 34) (td := 40) dX11_partyAt_1 (by decide) (by decide) (by decide) (fun c1 => ?_) (fun c1 => ?_) (fun c1a c1b => ?_)
  · skip
    refine wp_aload_n (pc := 28) dX11_partyAt_28 rfl rfl ?_
    refine wp_iload_n (pc := 29) dX11_partyAt_29 rfl rfl ?_
    refine wc_VP (pc := 30) (μ2 := mX11_keeperAt) (rc := 0) (rs := 0) [_] dX11_partyAt_30 rfl hR.bd rfl cv_X11_144_12 rfl ⟨(Nat.le_of_ble_eq_true rfl), (Nat.le_of_ble_eq_true rfl)⟩ (Nat.le_of_ble_eq_true rfl) (c_keeperAt l G _ hR hb) ?_
    exact wp_aret (r := _) (pc := 33) dX11_partyAt_33 rfl (Or.inl ⟨_, rfl⟩) ⟨by unfold pAt; rw [if_pos c1], rfl⟩
  · skip
    refine wp_aload_n (pc := 34) dX11_partyAt_34 rfl rfl ?_
    refine wp_iload_n (pc := 35) dX11_partyAt_35 rfl rfl ?_
    refine wc_VP (pc := 36) (μ2 := mX11_workerAt) (rc := 0) (rs := 0) [_] dX11_partyAt_36 rfl hR.bd rfl cv_X11_127_12 rfl ⟨(Nat.le_of_ble_eq_true rfl), (Nat.le_of_ble_eq_true rfl)⟩ (Nat.le_of_ble_eq_true rfl) (c_workerAt l G _ hR hb) ?_
    exact wp_aret (r := _) (pc := 39) dX11_partyAt_39 rfl (Or.inl ⟨_, rfl⟩) ⟨by unfold pAt; rw [if_neg (by rw [c1]; decide), if_pos c1], rfl⟩
  · skip
    refine wp_null (pc := 40) dX11_partyAt_40 ?_
    exact wp_aret (r := none) (pc := 41) dX11_partyAt_41 rfl (Or.inl ⟨_, rfl⟩) ⟨by unfold pAt; rw [if_neg c1a, if_neg c1b], rfl⟩
theorem c_memoryAt (w t : Int32) (hR : RH G hp A M h) (hb : bnd M) : SpP l G mX11_memoryAt [.ref (A.1 0 0), .int w, .int t] h (va_rf (mAt A M w t)) := by
  refine Sp.intro (lv := [_, _, _, _]) (by decide) rfl (Nat.le_of_ble_eq_true rfl) ?_
  refine wp_widen (rc' := 0) (rs' := 0) (Nat.le_refl _) (Nat.le_refl _) ?_
  have hb9 := hb
  unfold bnd at hb9
  refine wp_aload_n (pc := 0) dX11_memoryAt_0 rfl rfl ?_
  refine wp_iload_n (pc := 1) dX11_memoryAt_1 rfl rfl ?_
  refine wc_VP (pc := 2) (μ2 := mX11_workerAt) (rc := 0) (rs := 0) [_] dX11_memoryAt_2 rfl hR.bd rfl cv_X11_127_12 rfl ⟨(Nat.le_of_ble_eq_true rfl), (Nat.le_of_ble_eq_true rfl)⟩ (Nat.le_of_ble_eq_true rfl) (c_workerAt l G _ hR hb) ?_
  refine wp_astore_nQ (pc := 5) (lv' := [_, _, _, _]) dX11_memoryAt_5 rfl (Nat.le_of_ble_eq_true rfl) rfl rfl ?_
  refine wp_aload_nQ (pc := 6) dX11_memoryAt_6 rfl rfl ?_
  refine wp_ifnull (pc := 7) (tgt := 18) dX11_memoryAt_7 (by decide) (fun c7 => ?_) (fun a7 c7 => ?_)
  · skip
    refine wp_null (pc := 18) dX11_memoryAt_18 ?_
    refine wp_goto (pc := 19) (tgt := 27) dX11_memoryAt_19 (by decide) ?_
    exact wp_aret (r := none) (pc := 27) dX11_memoryAt_27 rfl (Or.inl ⟨_, rfl⟩) ⟨by unfold mAt; rw [if_neg (fun z => by rw [oAt_n c7] at z; cases z.1)], rfl⟩
  · obtain ⟨j, hj, rfl, rfl⟩ := oAt_s c7 (by omega)
    rw [oAt_t hj (by omega)]
    refine wp_aload_n (pc := 10) dX11_memoryAt_10 rfl rfl ?_
    refine wp_iload_n (pc := 11) dX11_memoryAt_11 rfl rfl ?_
    refine wc_VP (pc := 12) (μ2 := mX11_thingAt) (rc := 0) (rs := 0) [_] dX11_memoryAt_12 rfl hR.bd rfl cv_X11_156_12 rfl ⟨(Nat.le_of_ble_eq_true rfl), (Nat.le_of_ble_eq_true rfl)⟩ (Nat.le_of_ble_eq_true rfl) (c_thingAt l G _ hR hb) ?_
    refine wp_ifnonnull (pc := 15) (tgt := 22) dX11_memoryAt_15 (by decide) (fun a15 c15 => ?_) (fun c15 => ?_)
    · obtain ⟨i, hi, rfl, rfl⟩ := oAt_s c15 (by omega)
      refine wp_aload_n (pc := 22) dX11_memoryAt_22 rfl rfl ?_
      refine wp_iload_n (pc := 23) dX11_memoryAt_23 rfl rfl ?_
      refine wc_VP (pc := 24) (μ2 := mX10_memoryOf) (rc := 0) (rs := 0) [_] dX11_memoryAt_24 rfl (hR.wk hj) rfl cv_X11_131_11 rfl ⟨(Nat.le_of_ble_eq_true rfl), (Nat.le_of_ble_eq_true rfl)⟩ (Nat.le_of_ble_eq_true rfl) (c_memoryOf l G hR hb hj (by omega)) ?_
      exact wp_aret (r := some (A.1 6 (20 * j + i))) (pc := 27) dX11_memoryAt_27 rfl (Or.inl ⟨_, rfl⟩) ⟨by unfold mAt; rw [if_pos ⟨isIx_nI hj (by omega), isIx_nI hi (by omega)⟩, nx_nI (show j < 2 ^ 31 by omega), nx_nI (show i < 2 ^ 31 by omega)], rfl⟩
    · skip
      refine wp_null (pc := 18) dX11_memoryAt_18 ?_
      refine wp_goto (pc := 19) (tgt := 27) dX11_memoryAt_19 (by decide) ?_
      exact wp_aret (r := none) (pc := 27) dX11_memoryAt_27 rfl (Or.inl ⟨_, rfl⟩) ⟨by unfold mAt; rw [if_neg (fun z => by rw [oAt_n c15] at z; cases z.2)], rfl⟩
end K2
