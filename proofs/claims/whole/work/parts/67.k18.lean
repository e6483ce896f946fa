/-! ===== the class: a thing's own methods ===== -/
theorem wrt_up {M : MS} {t : Nat} : ∀ {n m : Nat}, n ≤ m → wrt M t n = true → wrt M t m = true := by
  intro n m h hw
  induction m with
  | zero => rw [show n = 0 by omega] at hw; exact hw
  | succ m ih =>
    rcases Nat.lt_or_ge m n with z | z
    · rw [show m + 1 = n by omega]; exact hw
    · unfold wrt; rw [if_pos (ih z)]
theorem wp_putT {l : Launch} {G : WG} {μ : MI} {Z : WZ} {pc : Nat} {lv : List (Option Value)} {st : List Value} {h : Hp} {rc rs a k idx : Nat} {κ : Int32} {fs : List Value} {v : Value} (hd : decode (mC μ) pc = .ok (.putfield idx, 3)) (ft : ∀ ci, isT ci → FL (mY μ).cls idx k ci) (hc : h a = some (oB (tci κ) fs)) (hp9 : ∀ ci, isT ci → isFin k ci = false ∧ narrow (cl_ty ci k) v = v ∧ fits (cl_ty ci k) v = true) (hl9 : k < fs.length) (kk : ∀ h' : Hp, h' a = some (oB (tci κ) (fs.set k v)) → (∀ q, q ≠ a → h' q = h q) → wp l G μ Z (pc + 3) lv st h' rc rs) : wp l G μ Z pc lv (v :: .ref a :: st) h rc rs :=
  wp_putC hd (ft _ (tci_lt κ)) hc (Or.inl (hp9 _ (tci_lt κ)).1) hl9 (hp9 _ (tci_lt κ)).2.1 (hp9 _ (tci_lt κ)).2.2 rfl kk
theorem pT4 (x : Int64) : ∀ ci, isT ci → isFin 4 ci = false ∧ narrow (cl_ty ci 4) (.long x) = .long x ∧ fits (cl_ty ci 4) (.long x) = true := by
  rintro ci (rfl | rfl | rfl | rfl | rfl) <;> exact ⟨rfl, rfl, rfl⟩
/-- the grant of a worker, its address -/
def gGr (A : AD) (M : MS) (t : Nat) (w : Int32) : Option Nat := (gof M t w (nx (M.2.1 21 t))).map (fun a => A.1 8 (20 * t + a))
def gMn (A : AD) (M : MS) (j t : Nat) : Option Nat := (mnt M j t).map (fun a => A.1 8 (20 * t + a))
section K18
variable (l : Launch) (G : WG) {hp h : Hp} {A : AD} {M : MS}
theorem c_isWritten {t : Nat} (hR : RH G hp A M h) (hT : tidy M) (ht : t < nx (M.1 11)) : SpP l G mX4_isWritten [.ref (A.1 7 t)] h (.int (bi (wrt M t (nx (M.2.1 21 t))))) := by
  refine Sp.intro (lv := [_, _]) (by decide) rfl (Nat.le_of_ble_eq_true rfl) ?_
  refine wp_widen (rc' := 0) (rs' := 0) (Nat.le_refl _) (Nat.le_refl _) ?_
  have h20 := hT.1 t ht
  generalize hQ0 : (fun (w9 : Option Value) (h' : Hp) => w9 = some (.int (bi (wrt M t (nx (M.2.1 21 t))))) ∧ h' = h) = Q0
  have loop : ∀ i, i ≤ nx (M.2.1 21 t) → wrt M t i = false → wp l G mX4_isWritten (zM G mX4_isWritten Q0) 2 [some (.ref (A.1 7 t)), some (.int (nI i))] [] h 0 0 := by
    refine loopU _ (nx (M.2.1 21 t)) (fun i hi ih => ?_) ?_
    · intro hw
      refine wp_iload_n (pc := 2) dX4_isWritten_2 rfl rfl ?_
      refine wp_aload_n (pc := 3) dX4_isWritten_3 rfl rfl ?_
      refine wp_getT (pc := 4) dX4_isWritten_4 ft_X4_12 (hR.th ht) rfl ?_
      refine wc_VP (pc := 7) (μ2 := mJx4a65c_size_8abf5) (rc := 0) (rs := 0) [] dX4_isWritten_7 rfl (hR.lst (ll := t + 4) (by omega)) rfl cv_X4_36_0 rfl ⟨(Nat.le_of_ble_eq_true rfl), (Nat.le_of_ble_eq_true rfl)⟩ (Nat.le_of_ble_eq_true rfl) (show SpP l G mJx4a65c_size_8abf5 [_] _ (.int (nI (nx (M.2.1 21 t)))) from j_size l G _ (hR.lst (ll := t + 4) (by omega))) ?_
      refine wp_icmp_ge (pc := 10) (tgt := 38) dX4_isWritten_10 (by decide) (fun z => absurd z (nI_ge hi (by omega))) (fun _ => ?_)
      refine wp_aload_n (pc := 13) dX4_isWritten_13 rfl rfl ?_
      refine wp_getT (pc := 14) dX4_isWritten_14 ft_X4_12 (hR.th ht) rfl ?_
      refine wp_iload_n (pc := 17) dX4_isWritten_17 rfl rfl ?_
      refine wc_VP (pc := 18) (μ2 := mJx4a65c_get_915e3) (rc := 0) (rs := 0) [_] dX4_isWritten_18 rfl (hR.lst (ll := t + 4) (by omega)) rfl cv_X4_40_0 rfl ⟨(Nat.le_of_ble_eq_true rfl), (Nat.le_of_ble_eq_true rfl)⟩ (Nat.le_of_ble_eq_true rfl) (j_get l G _ (hR.lst (ll := t + 4) (by omega)) (hR.dat (by omega)) hi (hR.cap (by omega)).1 (hR.cap (by omega)).2) ?_
      refine wp_cast (pc := 21) dX4_isWritten_21 (hR.gi hT ht hi) ca_X4_44_2 ?_
      refine wp_get (pc := 24) dX4_isWritten_24 fl_X4_46_2 (hR.gi hT ht hi) rfl ?_
      refine wp_if_ne (pc := 27) (tgt := 32) dX4_isWritten_27 (by decide) (fun c27 => ?_) (fun c27 => ?_)
      · skip
        refine wp_iinc (pc := 32) (v := _ + 1) (lv' := [_, _]) dX4_isWritten_32 rfl rfl rfl rfl ?_
        refine wp_goto (pc := 35) (tgt := 2) dX4_isWritten_35 (by decide) ?_
        exact wp_lv (ih (by unfold wrt; rw [hw, if_neg (by decide), if_neg c27])) (by simp [nI_1])
      · skip
        refine wp_iconst (pc := 30) (v := 1) dX4_isWritten_30 (by decide) ?_
        exact wp_zret (pc := 31) dX4_isWritten_31 rfl (by decide) (by rw [← hQ0]; exact ⟨by rw [wrt_up (n := i + 1) hi (by unfold wrt; rw [hw, if_neg (by decide), if_pos c27])]; rfl, rfl⟩)
    · intro hw
      refine wp_iload_n (pc := 2) dX4_isWritten_2 rfl rfl ?_
      refine wp_aload_n (pc := 3) dX4_isWritten_3 rfl rfl ?_
      refine wp_getT (pc := 4) dX4_isWritten_4 ft_X4_12 (hR.th ht) rfl ?_
      refine wc_VP (pc := 7) (μ2 := mJx4a65c_size_8abf5) (rc := 0) (rs := 0) [] dX4_isWritten_7 rfl (hR.lst (ll := t + 4) (by omega)) rfl cv_X4_36_0 rfl ⟨(Nat.le_of_ble_eq_true rfl), (Nat.le_of_ble_eq_true rfl)⟩ (Nat.le_of_ble_eq_true rfl) (show SpP l G mJx4a65c_size_8abf5 [_] _ (.int (nI (nx (M.2.1 21 t)))) from j_size l G _ (hR.lst (ll := t + 4) (by omega))) ?_
      refine wp_icmp_ge (pc := 10) (tgt := 38) dX4_isWritten_10 (by decide) (fun _ => ?_) (fun z => absurd (nI_le (Nat.le_refl _) (by omega)) z)
      refine wp_iconst (pc := 38) (v := 0) dX4_isWritten_38 (by decide) ?_
      exact wp_zret (pc := 39) dX4_isWritten_39 rfl (by decide) (by rw [← hQ0]; exact ⟨by rw [hw]; rfl, rfl⟩)
  refine wp_iconst (pc := 0) (v := 0) dX4_isWritten_0 (by decide) ?_
  refine wp_istore_n (pc := 1) (lv' := [_, _]) dX4_isWritten_1 rfl (Nat.le_of_ble_eq_true rfl) rfl rfl ?_
  exact loop 0 (Nat.zero_le _) rfl
theorem c_grantOf {t : Nat} (w : Int32) (hR : RH G hp A M h) (hT : tidy M) (ht : t < nx (M.1 11)) : SpP l G mX4_grantOf [.ref (A.1 7 t), .int w] h (va_rf (gGr A M t w)) := by
  refine Sp.intro (lv := [_, _, _]) (by decide) rfl (Nat.le_of_ble_eq_true rfl) ?_
  refine wp_widen (rc' := 0) (rs' := 0) (Nat.le_refl _) (Nat.le_refl _) ?_
  have h20 := hT.1 t ht
  generalize hQ0 : (fun (w9 : Option Value) (h' : Hp) => w9 = some (va_rf (gGr A M t w)) ∧ h' = h) = Q0
  have loop : ∀ i, i ≤ nx (M.2.1 21 t) → (∀ q, q < i → ¬ M.2.1 22 (20 * t + q) = w) → wp l G mX4_grantOf (zM G mX4_grantOf Q0) 2 [some (.ref (A.1 7 t)), some (.int w), some (.int (nI i))] [] h 0 0 := by
    refine loopU _ (nx (M.2.1 21 t)) (fun i hi ih => ?_) ?_
    · intro hn
      refine wp_iload_n (pc := 2) dX4_grantOf_2 rfl rfl ?_
      refine wp_aload_n (pc := 3) dX4_grantOf_3 rfl rfl ?_
      refine wp_getT (pc := 4) dX4_grantOf_4 ft_X4_12 (hR.th ht) rfl ?_
      refine wc_VP (pc := 7) (μ2 := mJx4a65c_size_8abf5) (rc := 0) (rs := 0) [] dX4_grantOf_7 rfl (hR.lst (ll := t + 4) (by omega)) rfl cv_X4_36_0 rfl ⟨(Nat.le_of_ble_eq_true rfl), (Nat.le_of_ble_eq_true rfl)⟩ (Nat.le_of_ble_eq_true rfl) (show SpP l G mJx4a65c_size_8abf5 [_] _ (.int (nI (nx (M.2.1 21 t)))) from j_size l G _ (hR.lst (ll := t + 4) (by omega))) ?_
      refine wp_icmp_ge (pc := 10) (tgt := 49) dX4_grantOf_10 (by decide) (fun z => absurd z (nI_ge hi (by omega))) (fun _ => ?_)
      refine wp_aload_n (pc := 13) dX4_grantOf_13 rfl rfl ?_
      refine wp_getT (pc := 14) dX4_grantOf_14 ft_X4_12 (hR.th ht) rfl ?_
      refine wp_iload_n (pc := 17) dX4_grantOf_17 rfl rfl ?_
      refine wc_VP (pc := 18) (μ2 := mJx4a65c_get_915e3) (rc := 0) (rs := 0) [_] dX4_grantOf_18 rfl (hR.lst (ll := t + 4) (by omega)) rfl cv_X4_40_0 rfl ⟨(Nat.le_of_ble_eq_true rfl), (Nat.le_of_ble_eq_true rfl)⟩ (Nat.le_of_ble_eq_true rfl) (j_get l G _ (hR.lst (ll := t + 4) (by omega)) (hR.dat (by omega)) hi (hR.cap (by omega)).1 (hR.cap (by omega)).2) ?_
      refine wp_cast (pc := 21) dX4_grantOf_21 (hR.gi hT ht hi) ca_X4_44_2 ?_
      refine wp_get (pc := 24) dX4_grantOf_24 fl_X4_49_2 (hR.gi hT ht hi) rfl ?_
      refine wp_iload_n (pc := 27) dX4_grantOf_27 rfl rfl ?_
      refine wp_icmp_ne (pc := 28) (tgt := 43) dX4_grantOf_28 (by decide) (fun c28 => ?_) (fun c28 => ?_)
      · skip
        refine wp_iinc (pc := 43) (v := _ + 1) (lv' := [_, _, _]) dX4_grantOf_43 rfl rfl rfl rfl ?_
        refine wp_goto (pc := 46) (tgt := 2) dX4_grantOf_46 (by decide) ?_
        exact wp_lv (ih (fun q hq => by
          by_cases e : q = i
          · subst e; exact c28
          · exact hn q (by omega))) (by simp [nI_1])
      · skip
        refine wp_aload_n (pc := 31) dX4_grantOf_31 rfl rfl ?_
        refine wp_getT (pc := 32) dX4_grantOf_32 ft_X4_12 (hR.th ht) rfl ?_
        refine wp_iload_n (pc := 35) dX4_grantOf_35 rfl rfl ?_
        refine wc_VP (pc := 36) (μ2 := mJx4a65c_get_915e3) (rc := 0) (rs := 0) [_] dX4_grantOf_36 rfl (hR.lst (ll := t + 4) (by omega)) rfl cv_X4_40_0 rfl ⟨(Nat.le_of_ble_eq_true rfl), (Nat.le_of_ble_eq_true rfl)⟩ (Nat.le_of_ble_eq_true rfl) (j_get l G _ (hR.lst (ll := t + 4) (by omega)) (hR.dat (by omega)) hi (hR.cap (by omega)).1 (hR.cap (by omega)).2) ?_
        refine wp_cast (pc := 39) dX4_grantOf_39 (hR.gi hT ht hi) ca_X4_44_2 ?_
        exact wp_aret (r := some (A.1 8 (20 * t + i))) (pc := 42) dX4_grantOf_42 rfl (Or.inl ⟨_, rfl⟩) (by rw [← hQ0]; exact ⟨by unfold gGr gof; rw [find_range hi (fun q hq => decide_eq_false (hn q hq)) (decide_eq_true c28)]; rfl, rfl⟩)
    · intro hn
      refine wp_iload_n (pc := 2) dX4_grantOf_2 rfl rfl ?_
      refine wp_aload_n (pc := 3) dX4_grantOf_3 rfl rfl ?_
      refine wp_getT (pc := 4) dX4_grantOf_4 ft_X4_12 (hR.th ht) rfl ?_
      refine wc_VP (pc := 7) (μ2 := mJx4a65c_size_8abf5) (rc := 0) (rs := 0) [] dX4_grantOf_7 rfl (hR.lst (ll := t + 4) (by omega)) rfl cv_X4_36_0 rfl ⟨(Nat.le_of_ble_eq_true rfl), (Nat.le_of_ble_eq_true rfl)⟩ (Nat.le_of_ble_eq_true rfl) (show SpP l G mJx4a65c_size_8abf5 [_] _ (.int (nI (nx (M.2.1 21 t)))) from j_size l G _ (hR.lst (ll := t + 4) (by omega))) ?_
      refine wp_icmp_ge (pc := 10) (tgt := 49) dX4_grantOf_10 (by decide) (fun _ => ?_) (fun z => absurd (nI_le (Nat.le_refl _) (by omega)) z)
      refine wp_null (pc := 49) dX4_grantOf_49 ?_
      exact wp_aret (r := none) (pc := 50) dX4_grantOf_50 rfl (Or.inl ⟨_, rfl⟩) (by rw [← hQ0]; exact ⟨by unfold gGr gof; rw [find_rangeN (fun q hq => decide_eq_false (hn q hq))]; rfl, rfl⟩)
  refine wp_iconst (pc := 0) (v := 0) dX4_grantOf_0 (by decide) ?_
  refine wp_istore_n (pc := 1) (lv' := [_, _, _]) dX4_grantOf_1 rfl (Nat.le_of_ble_eq_true rfl) rfl rfl ?_
  exact loop 0 (Nat.zero_le _) (fun q hq => absurd hq (by omega))
theorem gGr_s {A : AD} {M : MS} {t a : Nat} {w : Int32} (h : gGr A M t w = some a) : ∃ i, gof M t w (nx (M.2.1 21 t)) = some i ∧ i < nx (M.2.1 21 t) ∧ a = A.1 8 (20 * t + i) := by
  unfold gGr at h
  cases hz : gof M t w (nx (M.2.1 21 t)) with
  | none => rw [hz] at h; cases h
  | some i => rw [hz] at h; cases h; exact ⟨i, rfl, (gof_lt hz).1, rfl⟩
theorem gGr_n {A : AD} {M : MS} {t : Nat} {w : Int32} (h : gGr A M t w = none) : gof M t w (nx (M.2.1 21 t)) = none := by
  unfold gGr at h
  cases hz : gof M t w (nx (M.2.1 21 t)) with
  | none => rfl
  | some i => rw [hz] at h; cases h
theorem gMn_s {A : AD} {M : MS} {j t a : Nat} (h : gMn A M j t = some a) : ∃ i, mnt M j t = some i ∧ i < nx (M.2.1 21 t) ∧ a = A.1 8 (20 * t + i) := by
  unfold gMn at h
  cases hz : mnt M j t with
  | none => rw [hz] at h; cases h
  | some i => rw [hz] at h; cases h; exact ⟨i, rfl, mnt_lt hz, rfl⟩
theorem gMn_n {A : AD} {M : MS} {j t : Nat} (h : gMn A M j t = none) : mnt M j t = none := by
  unfold gMn at h
  cases hz : mnt M j t with
  | none => rfl
  | some i => rw [hz] at h; cases h
theorem c_grantMeantBy {t j : Nat} (hR : RH G hp A M h) (hT : tidy M) (ht : t < nx (M.1 11)) (hj : j < nx (M.1 35)) : SpP l G mX4_grantMeantBy [.ref (A.1 7 t), .ref (A.1 9 j)] h (va_rf (gMn A M j t)) := by
  refine Sp.intro (lv := [_, _, _]) (by decide) rfl (Nat.le_of_ble_eq_true rfl) ?_
  refine wp_widen (rc' := 0) (rs' := 0) (Nat.le_refl _) (Nat.le_refl _) ?_
  refine wp_aload_n (pc := 0) dX4_grantMeantBy_0 rfl rfl ?_
  refine wp_aload_n (pc := 1) dX4_grantMeantBy_1 rfl rfl ?_
  refine wp_get (pc := 2) dX4_grantMeantBy_2 fl_X4_52_3 (hR.lt hj) rfl ?_
  refine wc_TP (pc := 5) (μ2 := mX4_grantOf) (rc := 0) (rs := 0) [_] dX4_grantMeantBy_5 rfl (hR.th ht) ct_X4_55 rfl ⟨(Nat.le_of_ble_eq_true rfl), (Nat.le_of_ble_eq_true rfl)⟩ (Nat.le_of_ble_eq_true rfl) (c_grantOf l G _ hR hT ht) ?_
  refine wp_astore_nQ (pc := 8) (lv' := [_, _, _]) dX4_grantMeantBy_8 rfl (Nat.le_of_ble_eq_true rfl) rfl rfl ?_
  refine wp_aload_nQ (pc := 9) dX4_grantMeantBy_9 rfl rfl ?_
  refine wp_ifnull (pc := 10) (tgt := 25) dX4_grantMeantBy_10 (by decide) (fun c10 => ?_) (fun a10 c10 => ?_)
  · skip
    refine wp_null (pc := 25) dX4_grantMeantBy_25 ?_
    refine wp_goto (pc := 26) (tgt := 30) dX4_grantMeantBy_26 (by decide) ?_
    exact wp_aret (r := none) (pc := 30) dX4_grantMeantBy_30 rfl (Or.inl ⟨_, rfl⟩) ⟨by unfold gMn mnt; rw [gGr_n c10]; rfl, rfl⟩
  · obtain ⟨i, g0, hi, rfl⟩ := gGr_s c10
    rw [c10]
    refine wp_aload_n (pc := 13) dX4_grantMeantBy_13 rfl rfl ?_
    refine wp_get (pc := 14) dX4_grantMeantBy_14 fl_X4_59_2 (hR.gi hT ht hi) rfl ?_
    refine wp_aload_n (pc := 17) dX4_grantMeantBy_17 rfl rfl ?_
    refine wp_get (pc := 18) dX4_grantMeantBy_18 fl_X4_62_3 (hR.lt hj) rfl ?_
    refine wp_lcmp_eq (pc := 21) (tgt := 29) dX4_grantMeantBy_21 dX4_grantMeantBy_22 (by decide) (fun c21 => ?_) (fun c21 => ?_)
    · skip
      refine wp_aload_n (pc := 29) dX4_grantMeantBy_29 rfl rfl ?_
      exact wp_aret (r := some (A.1 8 (20 * t + i))) (pc := 30) dX4_grantMeantBy_30 rfl (Or.inl ⟨_, rfl⟩) ⟨by unfold gMn mnt; rw [g0]; simp only [eq_true c21, if_true, if_false]; rfl, rfl⟩
    · skip
      refine wp_null (pc := 25) dX4_grantMeantBy_25 ?_
      refine wp_goto (pc := 26) (tgt := 30) dX4_grantMeantBy_26 (by decide) ?_
      exact wp_aret (r := none) (pc := 30) dX4_grantMeantBy_30 rfl (Or.inl ⟨_, rfl⟩) ⟨by unfold gMn mnt; rw [g0]; simp only [eq_false c21, if_true, if_false]; rfl, rfl⟩
theorem c_fits_5 {t : Nat} {w mode parts : Int32} (hR : RH G hp A M h) (hTI : thI M t) (ht : t < nx (M.1 11)) (h1 : ¬ M.2.1 12 t = 1) (h2 : ¬ M.2.1 12 t = 2) (h3 : ¬ M.2.1 12 t = 3) (h4 : ¬ M.2.1 12 t = 4) : SpP l G mX4_fits [.ref (A.1 7 t), .int w, .int mode, .int parts] h (.int (bi (fts M t w mode parts))) := by
  refine Sp.intro (lv := [_, _, _, _]) (by decide) rfl (Nat.le_of_ble_eq_true rfl) ?_
  refine wp_widen (rc' := 0) (rs' := 0) (Nat.le_refl _) (Nat.le_refl _) ?_
  refine wp_aload_n (pc := 0) dX4_fits_0 rfl rfl ?_
  refine wp_getT (pc := 1) dX4_fits_1 ft_X4_12 (hR.th ht) rfl ?_
  refine wc_VP (pc := 4) (μ2 := mJx4a65c_isEmpty_aae02) (rc := 0) (rs := 0) [] dX4_fits_4 rfl (hR.lst (ll := t + 4) (by omega)) rfl cv_X4_32_0 rfl ⟨(Nat.le_of_ble_eq_true rfl), (Nat.le_of_ble_eq_true rfl)⟩ (Nat.le_of_ble_eq_true rfl) (show SpP l G mJx4a65c_isEmpty_aae02 [_] _ (.int (if nI (nx (M.2.1 21 t)) = 0 then 1 else 0)) from j_isEmpty l G _ (hR.lst (ll := t + 4) (by omega))) ?_
  exact wp_zret (pc := 7) dX4_fits_7 rfl (by by_cases z : nI (nx (M.2.1 21 t)) = 0 <;> simp [z]) ⟨by rw [← hTI.1]; simp only [fts, eq_false h1, eq_false h2, eq_false h3, eq_false h4, if_false]; by_cases z : M.2.1 21 t = 0 <;> simp [z, bi], rfl⟩
theorem RH.thS {G : WG} {hp h : Hp} {A : AD} {M : MS} (hR : RH G hp A M h) {i : Nat} (hv : i < nx (M.1 11)) (hk : M.2.1 12 i = 1) : h (A.1 7 i) = some (oB 8 [.int (M.2.1 12 i), .int (M.2.1 13 i), .int (lng M i), .ref (A.1 1 (i + 4)), .long (M.2.2 18 i)]) := by
  have e := hR.th hv
  unfold tEx at e
  rw [hk, if_neg (by decide), if_neg (by decide), if_neg (by decide)] at e
  rw [hk]
  exact e
theorem c_fits_8 {t : Nat} {w mode parts : Int32} (hR : RH G hp A M h) (hTI : thI M t) (hT : tidy M) (ht : t < nx (M.1 11)) (hk : M.2.1 12 t = 1) : SpP l G mX7_fits [.ref (A.1 7 t), .int w, .int mode, .int parts] h (.int (bi (fts M t w mode parts))) := by
  refine Sp.intro (lv := [_, _, _, _]) (by decide) rfl (Nat.le_of_ble_eq_true rfl) ?_
  refine wp_widen (rc' := 0) (rs' := 0) (Nat.le_refl _) (Nat.le_refl _) ?_
  refine wp_iload_n (pc := 0) dX7_fits_0 rfl rfl ?_
  refine wp_iconst (pc := 1) (v := 1) dX7_fits_1 (by decide) ?_
  refine wp_icmp_ne (pc := 2) (tgt := 20) dX7_fits_2 (by decide) (fun c2 => ?_) (fun c2 => ?_)
  · skip
    refine wp_aload_n (pc := 20) dX7_fits_20 rfl rfl ?_
    refine wp_get (pc := 21) dX7_fits_21 fl_X7_15_8 (hR.thS ht hk) rfl ?_
    refine wc_VP (pc := 24) (μ2 := mJx4a65c_isEmpty_aae02) (rc := 0) (rs := 0) [] dX7_fits_24 rfl (hR.lst (ll := t + 4) (by omega)) rfl cv_X7_19_0 rfl ⟨(Nat.le_of_ble_eq_true rfl), (Nat.le_of_ble_eq_true rfl)⟩ (Nat.le_of_ble_eq_true rfl) (show SpP l G mJx4a65c_isEmpty_aae02 [_] _ (.int (if nI (nx (M.2.1 21 t)) = 0 then 1 else 0)) from j_isEmpty l G _ (hR.lst (ll := t + 4) (by omega))) ?_
    exact wp_zret (pc := 27) dX7_fits_27 rfl (by by_cases z : nI (nx (M.2.1 21 t)) = 0 <;> simp [z]) ⟨by rw [← hTI.1]; simp only [fts, hk, (by decide : ((1 : Int32) = 1) = True), eq_false c2, if_true, if_false]; by_cases z : M.2.1 21 t = 0 <;> simp [z, bi], rfl⟩
  · skip
    refine wp_aload_n (pc := 5) dX7_fits_5 rfl rfl ?_
    refine wc_UP (pc := 6) (μ2 := mX4_isWritten) (rc := 0) (rs := 0) [] dX7_fits_6 rfl (hR.thS ht hk) rfl cu_X7_9_8 rfl ⟨(Nat.le_of_ble_eq_true rfl), (Nat.le_of_ble_eq_true rfl)⟩ (Nat.le_of_ble_eq_true rfl) (c_isWritten l G hR hT ht) ?_
    refine wp_ifB_ne (pc := 9) (tgt := 16) dX7_fits_9 (by decide) (fun c9 => ?_) (fun c9 => ?_)
    · skip
      refine wp_iconst (pc := 16) (v := 0) dX7_fits_16 (by decide) ?_
      refine wp_goto (pc := 17) (tgt := 27) dX7_fits_17 (by decide) ?_
      exact wp_zret (pc := 27) dX7_fits_27 rfl (by decide) ⟨by simp only [fts, bi, hk, (by decide : ((1 : Int32) = 1) = True), eq_true c2, c9, if_true, if_false, Bool.true_eq_false, Bool.false_eq_true, reduceIte, reduceCtorEq, Bool.not_true, Bool.not_false, true_and, and_true, and_false, false_and, or_true, true_or, or_false, false_or, not_true_eq_false, not_false_eq_true] <;> rfl, rfl⟩
    · skip
      refine wp_iconst (pc := 12) (v := 1) dX7_fits_12 (by decide) ?_
      refine wp_goto (pc := 13) (tgt := 27) dX7_fits_13 (by decide) ?_
      exact wp_zret (pc := 27) dX7_fits_27 rfl (by decide) ⟨by simp only [fts, bi, hk, (by decide : ((1 : Int32) = 1) = True), eq_true c2, c9, if_true, if_false, Bool.true_eq_false, Bool.false_eq_true, reduceIte, reduceCtorEq, Bool.not_true, Bool.not_false, true_and, and_true, and_false, false_and, or_true, true_or, or_false, false_or, not_true_eq_false, not_false_eq_true] <;> rfl, rfl⟩
theorem c_fits_7 {t : Nat} {w mode parts : Int32} (hR : RH G hp A M h) (hTI : thI M t) (hT : tidy M) (ht : t < nx (M.1 11)) (hk : M.2.1 12 t = 3) : SpP l G mX6_fits [.ref (A.1 7 t), .int w, .int mode, .int parts] h (.int (bi (fts M t w mode parts))) := by
  refine Sp.intro (lv := [_, _, _, _]) (by decide) rfl (Nat.le_of_ble_eq_true rfl) ?_
  refine wp_widen (rc' := 0) (rs' := 0) (Nat.le_refl _) (Nat.le_refl _) ?_
  refine wp_iload_n (pc := 0) dX6_fits_0 rfl rfl ?_
  refine wp_iconst (pc := 1) (v := 1) dX6_fits_1 (by decide) ?_
  refine wp_icmp_ne (pc := 2) (tgt := 28) dX6_fits_2 (by decide) (fun c2 => ?_) (fun c2 => ?_)
  · skip
    refine wp_aload_n (pc := 28) dX6_fits_28 rfl rfl ?_
    refine wp_get (pc := 29) dX6_fits_29 fl_X6_19_7 (hR.thR ht hk) rfl ?_
    refine wc_VP (pc := 32) (μ2 := mJx4a65c_isEmpty_aae02) (rc := 0) (rs := 0) [] dX6_fits_32 rfl (hR.lst (ll := t + 4) (by omega)) rfl cv_X6_23_0 rfl ⟨(Nat.le_of_ble_eq_true rfl), (Nat.le_of_ble_eq_true rfl)⟩ (Nat.le_of_ble_eq_true rfl) (show SpP l G mJx4a65c_isEmpty_aae02 [_] _ (.int (if nI (nx (M.2.1 21 t)) = 0 then 1 else 0)) from j_isEmpty l G _ (hR.lst (ll := t + 4) (by omega))) ?_
    exact wp_zret (pc := 35) dX6_fits_35 rfl (by by_cases z : nI (nx (M.2.1 21 t)) = 0 <;> simp [z]) ⟨by rw [← hTI.1]; simp only [fts, hk, kne.2.1, kne.2.2.1, (by decide : ((3 : Int32) = 3) = True), eq_false c2, if_true, if_false]; by_cases z : M.2.1 21 t = 0 <;> simp [z, bi], rfl⟩
  · skip
    refine wp_aload_n (pc := 5) dX6_fits_5 rfl rfl ?_
    refine wc_UP (pc := 6) (μ2 := mX4_isWritten) (rc := 0) (rs := 0) [] dX6_fits_6 rfl (hR.thR ht hk) rfl cu_X6_15_7 rfl ⟨(Nat.le_of_ble_eq_true rfl), (Nat.le_of_ble_eq_true rfl)⟩ (Nat.le_of_ble_eq_true rfl) (c_isWritten l G hR hT ht) ?_
    refine wp_ifB_ne (pc := 9) (tgt := 24) dX6_fits_9 (by decide) (fun c9 => ?_) (fun c9 => ?_)
    · skip
      refine wp_iconst (pc := 24) (v := 0) dX6_fits_24 (by decide) ?_
      refine wp_goto (pc := 25) (tgt := 35) dX6_fits_25 (by decide) ?_
      exact wp_zret (pc := 35) dX6_fits_35 rfl (by decide) ⟨by simp only [fts, bi, hk, kne.2.1, kne.2.2.1, (by decide : ((3 : Int32) = 3) = True), eq_true c2, c9, if_true, if_false, Bool.true_eq_false, Bool.false_eq_true, reduceIte, reduceCtorEq, Bool.not_true, Bool.not_false, true_and, and_true, and_false, false_and, or_true, true_or, or_false, false_or, not_true_eq_false, not_false_eq_true] <;> rfl, rfl⟩
    · skip
      refine wp_aload_n (pc := 12) dX6_fits_12 rfl rfl ?_
      refine wp_get (pc := 13) dX6_fits_13 fl_X6_9_7 (hR.thR ht hk) rfl ?_
      refine wp_iconst (pc := 16) (v := (-1)) dX6_fits_16 (by decide) ?_
      refine wp_icmp_ne (pc := 17) (tgt := 24) dX6_fits_17 (by decide) (fun c17 => ?_) (fun c17 => ?_)
      · skip
        refine wp_iconst (pc := 24) (v := 0) dX6_fits_24 (by decide) ?_
        refine wp_goto (pc := 25) (tgt := 35) dX6_fits_25 (by decide) ?_
        exact wp_zret (pc := 35) dX6_fits_35 rfl (by decide) ⟨by simp only [fts, bi, hk, kne.2.1, kne.2.2.1, (by decide : ((3 : Int32) = 3) = True), eq_true c2, c9, eq_false c17, if_true, if_false, Bool.true_eq_false, Bool.false_eq_true, reduceIte, reduceCtorEq, Bool.not_true, Bool.not_false, true_and, and_true, and_false, false_and, or_true, true_or, or_false, false_or, not_true_eq_false, not_false_eq_true] <;> rfl, rfl⟩
      · skip
        refine wp_iconst (pc := 20) (v := 1) dX6_fits_20 (by decide) ?_
        refine wp_goto (pc := 21) (tgt := 35) dX6_fits_21 (by decide) ?_
        exact wp_zret (pc := 35) dX6_fits_35 rfl (by decide) ⟨by simp only [fts, bi, hk, kne.2.1, kne.2.2.1, (by decide : ((3 : Int32) = 3) = True), eq_true c2, c9, eq_true c17, if_true, if_false, Bool.true_eq_false, Bool.false_eq_true, reduceIte, reduceCtorEq, Bool.not_true, Bool.not_false, true_and, and_true, and_false, false_and, or_true, true_or, or_false, false_or, not_true_eq_false, not_false_eq_true] <;> rfl, rfl⟩
theorem c_fits_1 {t : Nat} {w mode parts : Int32} (hR : RH G hp A M h) (hTI : thI M t) (hT : tidy M) (ht : t < nx (M.1 11)) (hk : M.2.1 12 t = 2) : SpP l G mX0_fits [.ref (A.1 7 t), .int w, .int mode, .int parts] h (.int (bi (fts M t w mode parts))) := by
  refine Sp.intro (lv := [_, _, _, _, _, _]) (by decide) rfl (Nat.le_of_ble_eq_true rfl) ?_
  refine wp_widen (rc' := 0) (rs' := 0) (Nat.le_refl _) (Nat.le_refl _) ?_
  have h20 := hT.1 t ht
  generalize hQ0 : (fun (w9 : Option Value) (h' : Hp) => w9 = some (.int (bi (fts M t w mode parts))) ∧ h' = h) = Q0
  have loop : ∀ i, i ≤ nx (M.2.1 21 t) → wp l G mX0_fits (zM G mX0_fits Q0) 6 [some (.ref (A.1 7 t)), some (.int w), some (.int mode), some (.int parts), some (.int (parts + prt M t (i))), some (.int (nI (i)))] [] h 0 0 := by
    refine loopU _ (nx (M.2.1 21 t)) (fun i hi ih => ?_) ?_
    · refine wp_iload (pc := 6) dX0_fits_6 rfl ?_
      refine wp_aload_n (pc := 8) dX0_fits_8 rfl rfl ?_
      refine wp_get (pc := 9) dX0_fits_9 fl_X0_15_1 (hR.thC ht hk) rfl ?_
      refine wc_VP (pc := 12) (μ2 := mJx4a65c_size_8abf5) (rc := 0) (rs := 0) [] dX0_fits_12 rfl (hR.lst (ll := t + 4) (by omega)) rfl cv_X0_19_0 rfl ⟨(Nat.le_of_ble_eq_true rfl), (Nat.le_of_ble_eq_true rfl)⟩ (Nat.le_of_ble_eq_true rfl) (show SpP l G mJx4a65c_size_8abf5 [_] _ (.int (nI (nx (M.2.1 21 t)))) from j_size l G _ (hR.lst (ll := t + 4) (by omega))) ?_
      refine wp_icmp_ge (pc := 15) (tgt := 44) dX0_fits_15 (by decide) (fun z => absurd z (nI_ge hi (by omega))) (fun _ => ?_)
      refine wp_iload (pc := 18) dX0_fits_18 rfl ?_
      refine wp_aload_n (pc := 20) dX0_fits_20 rfl rfl ?_
      refine wp_get (pc := 21) dX0_fits_21 fl_X0_15_1 (hR.thC ht hk) rfl ?_
      refine wp_iload (pc := 24) dX0_fits_24 rfl ?_
      refine wc_VP (pc := 26) (μ2 := mJx4a65c_get_915e3) (rc := 0) (rs := 0) [_] dX0_fits_26 rfl (hR.lst (ll := t + 4) (by omega)) rfl cv_X0_25_0 rfl ⟨(Nat.le_of_ble_eq_true rfl), (Nat.le_of_ble_eq_true rfl)⟩ (Nat.le_of_ble_eq_true rfl) (j_get l G _ (hR.lst (ll := t + 4) (by omega)) (hR.dat (by omega)) hi (hR.cap (by omega)).1 (hR.cap (by omega)).2) ?_
      refine wp_cast (pc := 29) dX0_fits_29 (hR.gi hT ht hi) ca_X0_29_2 ?_
      refine wp_get (pc := 32) dX0_fits_32 fl_X0_31_2 (hR.gi hT ht hi) rfl ?_
      refine wp_iadd (pc := 35) dX0_fits_35 ?_
      refine wp_istore (pc := 36) (lv' := [_, _, _, _, _, _]) dX0_fits_36 (Nat.le_of_ble_eq_true rfl) rfl rfl ?_
      refine wp_iinc (pc := 38) (v := _ + 1) (lv' := [_, _, _, _, _, _]) dX0_fits_38 rfl rfl rfl rfl ?_
      refine wp_goto (pc := 41) (tgt := 6) dX0_fits_41 (by decide) ?_
      exact wp_lv ih (by simp [prt, nI_1, Int32.add_assoc])
    · refine wp_iload (pc := 6) dX0_fits_6 rfl ?_
      refine wp_aload_n (pc := 8) dX0_fits_8 rfl rfl ?_
      refine wp_get (pc := 9) dX0_fits_9 fl_X0_15_1 (hR.thC ht hk) rfl ?_
      refine wc_VP (pc := 12) (μ2 := mJx4a65c_size_8abf5) (rc := 0) (rs := 0) [] dX0_fits_12 rfl (hR.lst (ll := t + 4) (by omega)) rfl cv_X0_19_0 rfl ⟨(Nat.le_of_ble_eq_true rfl), (Nat.le_of_ble_eq_true rfl)⟩ (Nat.le_of_ble_eq_true rfl) (show SpP l G mJx4a65c_size_8abf5 [_] _ (.int (nI (nx (M.2.1 21 t)))) from j_size l G _ (hR.lst (ll := t + 4) (by omega))) ?_
      refine wp_icmp_ge (pc := 15) (tgt := 44) dX0_fits_15 (by decide) (fun _ => ?_) (fun z => absurd (nI_le (Nat.le_refl _) (by omega)) z)
      refine wp_iload (pc := 44) dX0_fits_44 rfl ?_
      refine wp_aload_n (pc := 46) dX0_fits_46 rfl rfl ?_
      refine wp_get (pc := 47) dX0_fits_47 fl_X0_9_1 (hR.thC ht hk) rfl ?_
      refine wp_icmp_gt (pc := 50) (tgt := 57) dX0_fits_50 (by decide) (fun c50 => ?_) (fun c50 => ?_)
      · rw [Int32.add_comm] at c50
        refine wp_iconst (pc := 57) (v := 0) dX0_fits_57 (by decide) ?_
        exact wp_zret (pc := 58) dX0_fits_58 rfl (by decide) (by rw [← hQ0]; exact ⟨by simp only [fts, bi, hk, kne.1, eq_true c50, if_true, if_false, Bool.true_eq_false, Bool.false_eq_true, reduceIte, reduceCtorEq, Bool.not_true, Bool.not_false, true_and, and_true, and_false, false_and, or_true, true_or, or_false, false_or, not_true_eq_false, not_false_eq_true] <;> rfl, rfl⟩)
      · rw [Int32.add_comm] at c50
        refine wp_iconst (pc := 53) (v := 1) dX0_fits_53 (by decide) ?_
        refine wp_goto (pc := 54) (tgt := 58) dX0_fits_54 (by decide) ?_
        exact wp_zret (pc := 58) dX0_fits_58 rfl (by decide) (by rw [← hQ0]; exact ⟨by simp only [fts, bi, hk, kne.1, eq_false c50, if_true, if_false, Bool.true_eq_false, Bool.false_eq_true, reduceIte, reduceCtorEq, Bool.not_true, Bool.not_false, true_and, and_true, and_false, false_and, or_true, true_or, or_false, false_or, not_true_eq_false, not_false_eq_true] <;> rfl, rfl⟩)
  refine wp_iload_n (pc := 0) dX0_fits_0 rfl rfl ?_
  refine wp_istore (pc := 1) (lv' := [_, _, _, _, _, _]) dX0_fits_1 (Nat.le_of_ble_eq_true rfl) rfl rfl ?_
  refine wp_iconst (pc := 3) (v := 0) dX0_fits_3 (by decide) ?_
  refine wp_istore (pc := 4) (lv' := [_, _, _, _, _, _]) dX0_fits_4 (Nat.le_of_ble_eq_true rfl) rfl rfl ?_
  exact wp_lv (loop 0 (Nat.zero_le _)) (by simp [prt, nI_0])
theorem c_fits_10 {t : Nat} {w mode parts : Int32} (hR : RH G hp A M h) (hTI : thI M t) (hT : tidy M) (ht : t < nx (M.1 11)) (hk : M.2.1 12 t = 4) : SpP l G mX9_fits [.ref (A.1 7 t), .int w, .int mode, .int parts] h (.int (bi (fts M t w mode parts))) := by
  refine Sp.intro (lv := [_, _, _, _]) (by decide) rfl (Nat.le_of_ble_eq_true rfl) ?_
  refine wp_widen (rc' := 0) (rs' := 0) (Nat.le_refl _) (Nat.le_refl _) ?_
  refine wp_aload_n (pc := 0) dX9_fits_0 rfl rfl ?_
  refine wp_get (pc := 1) dX9_fits_1 fl_X9_27_10 (hR.thW ht hk) rfl ?_
  refine wc_VP (pc := 4) (μ2 := mJx4a65c_isEmpty_aae02) (rc := 0) (rs := 0) [] dX9_fits_4 rfl (hR.lst (ll := t + 4) (by omega)) rfl cv_X9_31_0 rfl ⟨(Nat.le_of_ble_eq_true rfl), (Nat.le_of_ble_eq_true rfl)⟩ (Nat.le_of_ble_eq_true rfl) (show SpP l G mJx4a65c_isEmpty_aae02 [_] _ (.int (if nI (nx (M.2.1 21 t)) = 0 then 1 else 0)) from j_isEmpty l G _ (hR.lst (ll := t + 4) (by omega))) ?_
  refine wp_if_eq (pc := 7) (tgt := 31) dX9_fits_7 (by decide) (fun c7 => ?_) (fun c7 => ?_)
  · have g0 : (M.2.1 21 t = 0) = False := eq_false (fun z => by rw [← hTI.1, if_pos z] at c7; exact absurd c7 (by decide))
    refine wp_iconst (pc := 31) (v := 0) dX9_fits_31 (by decide) ?_
    exact wp_zret (pc := 32) dX9_fits_32 rfl (by decide) ⟨by simp only [fts, bi, hk, kne.2.2.2.1, kne.2.2.2.2.1, kne.2.2.2.2.2, g0, if_true, if_false, Bool.true_eq_false, Bool.false_eq_true, reduceIte, reduceCtorEq, Bool.not_true, Bool.not_false, true_and, and_true, and_false, false_and, or_true, true_or, or_false, false_or, not_true_eq_false, not_false_eq_true] <;> rfl, rfl⟩
  · have g0 : (M.2.1 21 t = 0) = True := eq_true (Decidable.byContradiction (fun z => c7 (by rw [← hTI.1, if_neg z])))
    refine wp_aload_n (pc := 10) dX9_fits_10 rfl rfl ?_
    refine wp_get (pc := 11) dX9_fits_11 fl_X9_15_10 (hR.thW ht hk) rfl ?_
    refine wp_if_eq (pc := 14) (tgt := 27) dX9_fits_14 (by decide) (fun c14 => ?_) (fun c14 => ?_)
    · skip
      refine wp_iconst (pc := 27) (v := 1) dX9_fits_27 (by decide) ?_
      refine wp_goto (pc := 28) (tgt := 32) dX9_fits_28 (by decide) ?_
      exact wp_zret (pc := 32) dX9_fits_32 rfl (by decide) ⟨by simp only [fts, bi, hk, kne.2.2.2.1, kne.2.2.2.2.1, kne.2.2.2.2.2, g0, eq_true c14, if_true, if_false, Bool.true_eq_false, Bool.false_eq_true, reduceIte, reduceCtorEq, Bool.not_true, Bool.not_false, true_and, and_true, and_false, false_and, or_true, true_or, or_false, false_or, not_true_eq_false, not_false_eq_true] <;> rfl, rfl⟩
    · skip
      refine wp_aload_n (pc := 17) dX9_fits_17 rfl rfl ?_
      refine wp_get (pc := 18) dX9_fits_18 fl_X9_9_10 (hR.thW ht hk) rfl ?_
      refine wp_iconst (pc := 21) (v := 0) dX9_fits_21 (by decide) ?_
      refine wp_iald (pc := 22) (i := 0) dX9_fits_22 (hR.qu (i := t) ⟨ht, hk⟩) ⟨rfl, by omega, by decide⟩ ?_
      rw [if_pos (show 0 < 8 by omega)]
      refine wp_iload_n (pc := 23) dX9_fits_23 rfl rfl ?_
      refine wp_icmp_ne (pc := 24) (tgt := 31) dX9_fits_24 (by decide) (fun c24 => ?_) (fun c24 => ?_)
      · rw [Nat.add_zero] at c24
        refine wp_iconst (pc := 31) (v := 0) dX9_fits_31 (by decide) ?_
        exact wp_zret (pc := 32) dX9_fits_32 rfl (by decide) ⟨by simp only [fts, bi, hk, kne.2.2.2.1, kne.2.2.2.2.1, kne.2.2.2.2.2, g0, eq_false c14, eq_false c24, if_true, if_false, Bool.true_eq_false, Bool.false_eq_true, reduceIte, reduceCtorEq, Bool.not_true, Bool.not_false, true_and, and_true, and_false, false_and, or_true, true_or, or_false, false_or, not_true_eq_false, not_false_eq_true] <;> rfl, rfl⟩
      · rw [Nat.add_zero] at c24
        refine wp_iconst (pc := 27) (v := 1) dX9_fits_27 (by decide) ?_
        refine wp_goto (pc := 28) (tgt := 32) dX9_fits_28 (by decide) ?_
        exact wp_zret (pc := 32) dX9_fits_32 rfl (by decide) ⟨by simp only [fts, bi, hk, kne.2.2.2.1, kne.2.2.2.2.1, kne.2.2.2.2.2, g0, eq_false c14, eq_true c24, if_true, if_false, Bool.true_eq_false, Bool.false_eq_true, reduceIte, reduceCtorEq, Bool.not_true, Bool.not_false, true_and, and_true, and_false, false_and, or_true, true_or, or_false, false_or, not_true_eq_false, not_false_eq_true] <;> rfl, rfl⟩
end K18
