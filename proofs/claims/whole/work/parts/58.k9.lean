/-! ===== the class: fall, lead ===== -/
theorem lng_c {A B : MS} (h1 : A.1 = B.1) (h2 : A.2.1 = B.2.1) (t : Nat) : lng A t = lng B t := by unfold lng; rw [h1, h2]
theorem kClk_c {A B : MS} (h1 : A.1 = B.1) (h2 : A.2.1 = B.2.1) (k : Nat) : kClk A k = kClk B k := by unfold kClk; rw [h1, h2]
theorem bnd_of {M M' : MS} (h2 : M'.1 2 = M.1 2) (h6 : M'.1 6 = M.1 6) (h11 : M'.1 11 = M.1 11) (h35 : M'.1 35 = M.1 35) (h46 : M'.1 46 = M.1 46) (hb : bnd M) : bnd M' := by unfold bnd at *; rw [h2, h6, h11, h35, h46]; exact hb
theorem tidy_of {M M' : MS} (h1 : M'.1 = M.1) (h2 : M'.2.1 = M.2.1) (hT : tidy M) : tidy M' := by unfold tidy at *; rw [h1, h2]; exact hT
theorem vl8 {A : AD} {M : MS} {t i : Nat} (h20 : i < 20) (ht : t < nx (M.1 11)) (hi : i < nx (M.2.1 21 t)) : vld A M 8 (20 * t + i) := by
  refine vl_8.mpr ?_
  rw [show (20 * t + i) / 20 = t by omega, show (20 * t + i) % 20 = i by omega]
  exact ⟨ht, hi⟩
theorem sL_sL (M : MS) (k j : Nat) (v w : Int64) : sL (sL M k j v) k j w = sL M k j w := ms_ext (fun _ => rfl) (fun _ _ => rfl) (fun k' j' => by simp only [sL_at]; split <;> simp_all)
section RA9
variable {G : WG} {hp h : Hp} {A : AD} {M : MS}
theorem RH.c19 (hR : RH G hp A M h) {t : Nat} (ht : t < nx (M.1 11)) (h0 : M.2.1 20 t = 0) (e : Int64) : RH G hp A (sL M 19 t e) h := by
  refine RH.k7 (A' := A) hR (M' := sL M 19 t e) ((chg.refl _ _ _ _).sL (by decide) _) (vl_7.mpr ht) (fun t' ht' hn => ?_) ⟨rfl, rfl, rfl, fun _ _ => rfl⟩ ?_ (fun _ _ => rfl)
  · by_cases et : t' = t
    · subst et; exact absurd h0 hn
    · rw [sL_n _ _ _ _ et]; exact hR.2.2.2.2.2 t' ht' hn
  · rw [hR.at (vl_7.mpr ht)]; rfl
end RA9
section K9
variable (l : Launch) (G : WG) {hp h : Hp} {A : AD} {M : MS}
theorem c_forget (hR : RH G hp A M h) {a : Nat} (ha : a < 20 * nx (M.1 6)) : SpN l G mX3_forget [.ref (A.1 6 a)] h (fun h' => RH G hp A (sI (sI M 29 a 0) 32 a 0) h') := by
  refine Sp.intro (lv := [_]) (by decide) rfl (Nat.le_of_ble_eq_true rfl) ?_
  refine wp_widen (rc' := 0) (rs' := 0) (Nat.le_refl _) (Nat.le_refl _) ?_
  refine wp_aload_n (pc := 0) dX3_forget_0 rfl rfl ?_
  refine wp_iconst (pc := 1) (v := 0) dX3_forget_1 (by decide) ?_
  refine wp_putC (pc := 2) dX3_forget_2 fl_X3_13_4 (hR.mm (i := a) ha) (Or.inl rfl) (Nat.le_of_ble_eq_true rfl) rfl rfl rfl (fun h hq1 hq2 => ?_)
  have hR := hR.k6 (M' := sI (M) 29 (a) (0)) ((chg.refl _ _ _ _).sI (by decide) _) (vl_6.mpr ha) (by rw [hq1]; simp [cc, cMm, sI, sL, sS, fu]) hq2
  refine wp_aload_n (pc := 5) dX3_forget_5 rfl rfl ?_
  refine wp_iconst (pc := 6) (v := 0) dX3_forget_6 (by decide) ?_
  refine wp_putC (pc := 7) dX3_forget_7 fl_X3_7_4 (hR.mm (i := a) ha) (Or.inl rfl) (Nat.le_of_ble_eq_true rfl) rfl rfl rfl (fun h hq1 hq2 => ?_)
  have hR := hR.k6 (M' := sI (sI (M) 29 (a) (0)) 32 (a) (0)) ((chg.refl _ _ _ _).sI (by decide) _) (vl_6.mpr ha) (by rw [hq1]; simp [cc, cMm, sI, sL, sS, fu]) hq2
  exact wp_vret (pc := 10) dX3_forget_10 rfl ⟨rfl, hR⟩
theorem k_fall (v : Int32) (hR : RH G hp A M h) (hb : bnd M) (hz : ∀ w, w < nx (M.1 6) → ∀ t, nx (M.1 11) ≤ t → t < 20 → M.2.1 29 (20 * w + t) = 0 ∧ M.2.1 32 (20 * w + t) = 0) : KS l G hp A mX11_fall [.int v] M h (.int (f_fall M v).1) ((f_fall M v).2) := by
  refine Sp.intro (lv := [_, _, _, _, _, _]) (by decide) rfl (Nat.le_of_ble_eq_true rfl) ?_
  refine wp_widen (rc' := 0) (rs' := 0) (Nat.le_refl _) (Nat.le_refl _) ?_
  have hb9 := hb
  unfold bnd at hb9
  generalize hQ0 : (fun (w : Option Value) (h' : Hp) => ∃ r, w = some r ∧ r = .int (f_fall M v).1 ∧ ∃ A', RH G hp A' ((f_fall M v).2) h' ∧ ext A M A') = Q0
  refine wp_aload_n (pc := 0) dX11_fall_0 rfl rfl ?_
  refine wp_iload_n (pc := 1) dX11_fall_1 rfl rfl ?_
  refine wc_VP (pc := 2) (μ2 := mX11_workerAt) (rc := 0) (rs := 0) [_] dX11_fall_2 rfl hR.bd rfl cv_X11_127_12 rfl ⟨(Nat.le_of_ble_eq_true rfl), (Nat.le_of_ble_eq_true rfl)⟩ (Nat.le_of_ble_eq_true rfl) (c_workerAt l G _ hR hb) ?_
  refine wp_astore_nQ (pc := 5) (lv' := [_, _, _, _, _, _]) dX11_fall_5 rfl (Nat.le_of_ble_eq_true rfl) rfl rfl ?_
  refine wp_aload_nQ (pc := 6) dX11_fall_6 rfl rfl ?_
  refine wp_ifnonnull (pc := 7) (tgt := 13) dX11_fall_7 (by decide) (fun a7 c7 => ?_) (fun c7 => ?_)
  · obtain ⟨j, hj, rfl, rfl⟩ := oAt_s c7 (by omega)
    rw [oAt_t hj (by omega)]
    have i1 := isIx_nI hj (show nx (M.1 6) < 2 ^ 31 by omega)
    have e1 : nx (nI j) = j := nx_nI (by omega)
    refine wp_iconst (pc := 13) (v := 0) dX11_fall_13 (by decide) ?_
    refine wp_istore_n (pc := 14) (lv' := [_, _, _, _, _, _]) dX11_fall_14 rfl (Nat.le_of_ble_eq_true rfl) rfl rfl ?_
    refine wp_iconst (pc := 15) (v := 0) dX11_fall_15 (by decide) ?_
    refine wp_istore (pc := 16) (lv' := [_, _, _, _, _, _]) dX11_fall_16 (Nat.le_of_ble_eq_true rfl) rfl rfl ?_
    have hf : f_fall M (nI j) = (fallN M j 20, sI (fallM M j 20) 10 j 0) := by unfold f_fall; rw [if_neg (by rw [i1]; decide), e1]
    obtain ⟨z1, z2⟩ := fall_z (hz j hj) (20 - nx (M.1 11)) (by omega)
    rw [show nx (M.1 11) + (20 - nx (M.1 11)) = 20 by omega] at z1 z2
    have loop : ∀ i, i ≤ nx (M.1 11) → ∀ h, RH G hp A (fallM M j i) h → wp l G mX11_fall (zM G mX11_fall Q0) 18 [some (.ref (A.1 0 0)), some (.int (nI j)), some (.ref (A.1 4 j)), some (.int (fallN M j i)), some (.int (nI i)), none] [] h 0 0 := by
      refine loopU _ (nx (M.1 11)) (fun i hi ih => ?_) ?_
      · intro h hR
        have s1 := (fallM_1 M j (i)).1
        have hb : bnd (fallM M j (i)) := bnd_of (by rw [s1]) (by rw [s1]) (by rw [s1]) (by rw [s1]) (by rw [s1]) hb
        have hj : j < nx ((fallM M j (i)).1 6) := by rw [s1]; exact hj
        refine wp_iload (pc := 18) dX11_fall_18 rfl ?_
        refine wp_aload_n (pc := 20) dX11_fall_20 rfl rfl ?_
        refine wp_get (pc := 21) dX11_fall_21 fl_X11_19_12 hR.bd rfl ?_
        refine wc_VP (pc := 24) (μ2 := mJx4a65c_size_8abf5) (rc := 0) (rs := 0) [] dX11_fall_24 rfl (hR.lst (ll := 2) (by omega)) rfl cv_X11_87_0 rfl ⟨(Nat.le_of_ble_eq_true rfl), (Nat.le_of_ble_eq_true rfl)⟩ (Nat.le_of_ble_eq_true rfl) (show SpP l G mJx4a65c_size_8abf5 [_] _ (.int (nI (nx ((fallM M j i).1 11)))) from j_size l G _ (hR.lst (ll := 2) (by omega))) ?_
        refine wp_icmp_ge (pc := 27) (tgt := 70) dX11_fall_27 (by decide) (fun z => absurd z (by rw [s1]; exact nI_ge hi (by omega))) (fun _ => ?_)
        refine wp_aload_n (pc := 30) dX11_fall_30 rfl rfl ?_
        refine wp_iload (pc := 31) dX11_fall_31 rfl ?_
        refine wc_VP (pc := 33) (μ2 := mX10_memoryOf) (rc := 0) (rs := 0) [_] dX11_fall_33 rfl (hR.wk hj) rfl cv_X11_131_11 rfl ⟨(Nat.le_of_ble_eq_true rfl), (Nat.le_of_ble_eq_true rfl)⟩ (Nat.le_of_ble_eq_true rfl) (c_memoryOf l G hR hb hj (by omega)) ?_
        refine wp_astore (pc := 36) (lv' := [_, _, _, _, _, _]) dX11_fall_36 (Nat.le_of_ble_eq_true rfl) rfl rfl ?_
        refine wp_aload (pc := 38) dX11_fall_38 rfl ?_
        refine wp_ifnullR (pc := 40) dX11_fall_40 ?_
        refine wp_iload_n (pc := 43) dX11_fall_43 rfl rfl ?_
        refine wp_aload (pc := 44) dX11_fall_44 rfl ?_
        refine wp_get (pc := 46) dX11_fall_46 fl_X11_135_4 (hR.mm (i := 20 * j + i) (by omega)) rfl ?_
        refine wp_if_eq (pc := 49) (tgt := 56) dX11_fall_49 (by decide) (fun c49 => ?_) (fun c49 => ?_)
        · skip
          refine wp_iconst (pc := 56) (v := 0) dX11_fall_56 (by decide) ?_
          refine wp_iadd (pc := 57) dX11_fall_57 ?_
          refine wp_istore_n (pc := 58) (lv' := [_, _, _, _, _, _]) dX11_fall_58 rfl (Nat.le_of_ble_eq_true rfl) rfl rfl ?_
          refine wp_aload (pc := 59) dX11_fall_59 rfl ?_
          refine wc_VN (pc := 61) (μ2 := mX3_forget) (rc := 0) (rs := 0) [] dX11_fall_61 rfl (hR.mm (i := 20 * j + i) (by omega)) rfl cv_X11_140_4 rfl ⟨(Nat.le_of_ble_eq_true rfl), (Nat.le_of_ble_eq_true rfl)⟩ (Nat.le_of_ble_eq_true rfl) (c_forget l G hR (by omega)) (fun h q => ?_)
          have hR := q
          refine wp_iinc (pc := 64) (v := _ + 1) (lv' := [_, _, _, _, _, _]) dX11_fall_64 rfl rfl rfl rfl ?_
          refine wp_goto (pc := 67) (tgt := 18) dX11_fall_67 (by decide) ?_
          exact wp_drop (ih h hR) (by simp [lvle, fallN, nI_1, c49])
        · skip
          refine wp_iconst (pc := 52) (v := 1) dX11_fall_52 (by decide) ?_
          refine wp_goto (pc := 53) (tgt := 57) dX11_fall_53 (by decide) ?_
          refine wp_iadd (pc := 57) dX11_fall_57 ?_
          refine wp_istore_n (pc := 58) (lv' := [_, _, _, _, _, _]) dX11_fall_58 rfl (Nat.le_of_ble_eq_true rfl) rfl rfl ?_
          refine wp_aload (pc := 59) dX11_fall_59 rfl ?_
          refine wc_VN (pc := 61) (μ2 := mX3_forget) (rc := 0) (rs := 0) [] dX11_fall_61 rfl (hR.mm (i := 20 * j + i) (by omega)) rfl cv_X11_140_4 rfl ⟨(Nat.le_of_ble_eq_true rfl), (Nat.le_of_ble_eq_true rfl)⟩ (Nat.le_of_ble_eq_true rfl) (c_forget l G hR (by omega)) (fun h q => ?_)
          have hR := q
          refine wp_iinc (pc := 64) (v := _ + 1) (lv' := [_, _, _, _, _, _]) dX11_fall_64 rfl rfl rfl rfl ?_
          refine wp_goto (pc := 67) (tgt := 18) dX11_fall_67 (by decide) ?_
          exact wp_drop (ih h hR) (by simp [lvle, fallN, nI_1, c49])
      · intro h hR
        have s1 := (fallM_1 M j (nx (M.1 11))).1
        have hb : bnd (fallM M j (nx (M.1 11))) := bnd_of (by rw [s1]) (by rw [s1]) (by rw [s1]) (by rw [s1]) (by rw [s1]) hb
        have hj : j < nx ((fallM M j (nx (M.1 11))).1 6) := by rw [s1]; exact hj
        refine wp_iload (pc := 18) dX11_fall_18 rfl ?_
        refine wp_aload_n (pc := 20) dX11_fall_20 rfl rfl ?_
        refine wp_get (pc := 21) dX11_fall_21 fl_X11_19_12 hR.bd rfl ?_
        refine wc_VP (pc := 24) (μ2 := mJx4a65c_size_8abf5) (rc := 0) (rs := 0) [] dX11_fall_24 rfl (hR.lst (ll := 2) (by omega)) rfl cv_X11_87_0 rfl ⟨(Nat.le_of_ble_eq_true rfl), (Nat.le_of_ble_eq_true rfl)⟩ (Nat.le_of_ble_eq_true rfl) (show SpP l G mJx4a65c_size_8abf5 [_] _ (.int (nI (nx ((fallM M j (nx (M.1 11))).1 11)))) from j_size l G _ (hR.lst (ll := 2) (by omega))) ?_
        refine wp_icmp_ge (pc := 27) (tgt := 70) dX11_fall_27 (by decide) (fun _ => ?_) (fun z => absurd (by rw [s1]; exact nI_le (Nat.le_refl _) (by omega)) z)
        refine wp_aload_n (pc := 70) dX11_fall_70 rfl rfl ?_
        refine wp_iconst (pc := 71) (v := 0) dX11_fall_71 (by decide) ?_
        refine wp_putC (pc := 72) dX11_fall_72 fl_X11_143_11 (hR.wk hj) (Or.inl rfl) (Nat.le_of_ble_eq_true rfl) rfl rfl rfl (fun h hq1 hq2 => ?_)
        have hR := hR.k4 (M' := sI (fallM M j (nx (M.1 11))) 10 (j) (0)) ((chg.refl _ _ _ _).sI (by decide) _) (vl_4.mpr hj) (by rw [hq1]; simp [cc, cWk, sI, sL, sS, fu]) hq2
        refine wp_iload_n (pc := 75) dX11_fall_75 rfl rfl ?_
        exact wp_iret (pc := 76) dX11_fall_76 rfl (by rw [← hQ0]; exact ⟨_, rfl, by rw [hf, z2], A, by rw [hf, z1]; exact hR, ext.refl A M⟩)
    exact loop 0 (Nat.zero_le _) h hR
  · skip
    refine wp_bipush (pc := 10) (v := (-2)) dX11_fall_10 (by decide) ?_
    exact wp_iret (pc := 12) dX11_fall_12 rfl (by rw [← hQ0]; exact ⟨_, rfl, by unfold f_fall; rw [if_pos (oAt_n c7)], A, by unfold f_fall; rw [if_pos (oAt_n c7)]; exact hR, ext.refl A M⟩)
theorem c_prolongAll (hR : RH G hp A M h) (hT : tidy M) {t : Nat} (ht : t < nx (M.1 11)) (c : Int64) : SpN l G mX4_prolongAll [.ref (A.1 7 t), .long c] h (fun h' => RH G hp A (ledE M t (c + (lng M t).toInt64) (nx (M.2.1 21 t))) h') := by
  refine Sp.intro (lv := [_, _, _, _]) (by decide) rfl (Nat.le_of_ble_eq_true rfl) ?_
  refine wp_widen (rc' := 0) (rs' := 0) (Nat.le_refl _) (Nat.le_refl _) ?_
  have h20 := hT.1 t ht
  generalize hQ0 : (fun (w : Option Value) (h' : Hp) => w = none ∧ RH G hp A (ledE M t (c + (lng M t).toInt64) (nx (M.2.1 21 t))) h') = Q0
  have loop : ∀ i, i ≤ nx (M.2.1 21 t) → ∀ h, RH G hp A (ledE M t (c + (lng M t).toInt64) i) h → wp l G mX4_prolongAll (zM G mX4_prolongAll Q0) 2 [some (.ref (A.1 7 t)), some (.long c), none, some (.int (nI i))] [] h 0 0 := by
    refine loopU _ (nx (M.2.1 21 t)) (fun i hi ih => ?_) ?_
    · intro h hR
      obtain ⟨s1, s2⟩ := ledE_1 M t (c + (lng M t).toInt64) i
      have hT : tidy (ledE M t (c + (lng M t).toInt64) i) := tidy_of s1 s2 hT
      have ht : t < nx ((ledE M t (c + (lng M t).toInt64) i).1 11) := by rw [s1]; exact ht
      have hi2 : i < nx ((ledE M t (c + (lng M t).toInt64) i).2.1 21 t) := by rw [s2]; exact hi
      refine wp_iload_n (pc := 2) dX4_prolongAll_2 rfl rfl ?_
      refine wp_aload_n (pc := 3) dX4_prolongAll_3 rfl rfl ?_
      refine wp_getT (pc := 4) dX4_prolongAll_4 ft_X4_12 (hR.th ht) rfl ?_
      refine wc_VP (pc := 7) (μ2 := mJx4a65c_size_8abf5) (rc := 0) (rs := 0) [] dX4_prolongAll_7 rfl (hR.lst (ll := t + 4) (by omega)) rfl cv_X4_36_0 rfl ⟨(Nat.le_of_ble_eq_true rfl), (Nat.le_of_ble_eq_true rfl)⟩ (Nat.le_of_ble_eq_true rfl) (show SpP l G mJx4a65c_size_8abf5 [_] _ (.int (nI (nx ((ledE M t (c + (lng M t).toInt64) i).2.1 21 t)))) from j_size l G _ (hR.lst (ll := t + 4) (by omega))) ?_
      refine wp_icmp_ge (pc := 10) (tgt := 40) dX4_prolongAll_10 (by decide) (fun z => absurd z (by rw [s2]; exact nI_ge hi (by omega))) (fun _ => ?_)
      refine wp_aload_n (pc := 13) dX4_prolongAll_13 rfl rfl ?_
      refine wp_getT (pc := 14) dX4_prolongAll_14 ft_X4_12 (hR.th ht) rfl ?_
      refine wp_iload_n (pc := 17) dX4_prolongAll_17 rfl rfl ?_
      refine wc_VP (pc := 18) (μ2 := mJx4a65c_get_915e3) (rc := 0) (rs := 0) [_] dX4_prolongAll_18 rfl (hR.lst (ll := t + 4) (by omega)) rfl cv_X4_40_0 rfl ⟨(Nat.le_of_ble_eq_true rfl), (Nat.le_of_ble_eq_true rfl)⟩ (Nat.le_of_ble_eq_true rfl) (j_get l G _ (hR.lst (ll := t + 4) (by omega)) (hR.dat (by omega)) hi2 (hR.cap (by omega)).1 (hR.cap (by omega)).2) ?_
      refine wp_cast (pc := 21) dX4_prolongAll_21 (hR.gi hT ht hi2) ca_X4_44_2 ?_
      refine wp_lload_n (pc := 24) dX4_prolongAll_24 rfl rfl ?_
      refine wp_aload_n (pc := 25) dX4_prolongAll_25 rfl rfl ?_
      refine wp_getT (pc := 26) dX4_prolongAll_26 ft_X4_29 (hR.th ht) rfl ?_
      rw [show lng (ledE M t (c + (lng M t).toInt64) i) t = lng M t from lng_c s1 s2 t]
      refine wp_i2l (pc := 29) dX4_prolongAll_29 ?_
      refine wp_ladd (pc := 30) dX4_prolongAll_30 ?_
      refine wp_putC (a := A.1 8 (20 * t + i)) (pc := 31) dX4_prolongAll_31 fl_X4_63_2 (hR.gi hT ht hi2) (Or.inl rfl) (Nat.le_of_ble_eq_true rfl) rfl rfl rfl (fun h hq1 hq2 => ?_)
      have hR := hR.k8 (M' := sL (ledE M t (c + (lng M t).toInt64) i) 26 (20 * t + i) ((c + (lng M t).toInt64))) ((chg.refl _ _ _ _).sL (by decide) _) (vl8 (by omega) ht hi2) (by rw [hq1]; simp [cc, cGr, sI, sL, sS, fu]) hq2
      refine wp_iinc (pc := 34) (v := _ + 1) (lv' := [_, _, _, _]) dX4_prolongAll_34 rfl rfl rfl rfl ?_
      refine wp_goto (pc := 37) (tgt := 2) dX4_prolongAll_37 (by decide) ?_
      exact wp_lv (ih h hR) (by simp [nI_1])
    · intro h hR
      obtain ⟨s1, s2⟩ := ledE_1 M t (c + (lng M t).toInt64) (nx (M.2.1 21 t))
      have hT : tidy (ledE M t (c + (lng M t).toInt64) (nx (M.2.1 21 t))) := tidy_of s1 s2 hT
      have ht : t < nx ((ledE M t (c + (lng M t).toInt64) (nx (M.2.1 21 t))).1 11) := by rw [s1]; exact ht
      refine wp_iload_n (pc := 2) dX4_prolongAll_2 rfl rfl ?_
      refine wp_aload_n (pc := 3) dX4_prolongAll_3 rfl rfl ?_
      refine wp_getT (pc := 4) dX4_prolongAll_4 ft_X4_12 (hR.th ht) rfl ?_
      refine wc_VP (pc := 7) (μ2 := mJx4a65c_size_8abf5) (rc := 0) (rs := 0) [] dX4_prolongAll_7 rfl (hR.lst (ll := t + 4) (by omega)) rfl cv_X4_36_0 rfl ⟨(Nat.le_of_ble_eq_true rfl), (Nat.le_of_ble_eq_true rfl)⟩ (Nat.le_of_ble_eq_true rfl) (show SpP l G mJx4a65c_size_8abf5 [_] _ (.int (nI (nx ((ledE M t (c + (lng M t).toInt64) (nx (M.2.1 21 t))).2.1 21 t)))) from j_size l G _ (hR.lst (ll := t + 4) (by omega))) ?_
      refine wp_icmp_ge (pc := 10) (tgt := 40) dX4_prolongAll_10 (by decide) (fun _ => ?_) (fun z => absurd (by rw [s2]; exact nI_le (Nat.le_refl _) (by omega)) z)
      exact wp_vret (pc := 40) dX4_prolongAll_40 rfl (by rw [← hQ0]; exact ⟨rfl, hR⟩)
  refine wp_iconst (pc := 0) (v := 0) dX4_prolongAll_0 (by decide) ?_
  refine wp_istore_n (pc := 1) (lv' := [_, _, _, _]) dX4_prolongAll_1 rfl (Nat.le_of_ble_eq_true rfl) rfl rfl ?_
  exact loop 0 (Nat.zero_le _) h hR
theorem c_callFirst (hR : RH G hp A M h) {t : Nat} (ht : t < nx (M.1 11)) (hk : M.2.1 12 t = 4) (c : Int64) : SpN l G mX9_callFirst [.ref (A.1 7 t), .long c] h (fun h' => RH G hp (A.1, A.2.1, A.2.2.1, fu A.2.2.2 t (c + (lng M t).toInt64)) (sL (sI M 20 t 1) 19 t (c + (lng M t).toInt64)) h') := by
  refine Sp.intro (lv := [_, _, _]) (by decide) rfl (Nat.le_of_ble_eq_true rfl) ?_
  refine wp_widen (rc' := 0) (rs' := 0) (Nat.le_refl _) (Nat.le_refl _) ?_
  refine wp_aload_n (pc := 0) dX9_callFirst_0 rfl rfl ?_
  refine wp_iconst (pc := 1) (v := 1) dX9_callFirst_1 (by decide) ?_
  refine wp_putC (pc := 2) dX9_callFirst_2 fl_X9_19_10 (hR.thW ht hk) (Or.inl rfl) (Nat.le_of_ble_eq_true rfl) rfl rfl rfl (fun h hq1 hq2 => ?_)
  have hR := RH.k7 (A' := A) hR (M' := sL (sI M 20 t 1) 19 t (A.2.2.2 t)) (((chg.refl _ _ _ _).sI (by decide) _).sL (by decide) _) (vl_7.mpr ht) (fun t' ht' hn => by
    by_cases et : t' = t
    · subst et; rw [sL_at, if_pos ⟨rfl, rfl⟩]
    · rw [sL_n _ _ _ _ et]; rw [sL_1, sI_n _ _ _ _ et] at hn; exact hR.2.2.2.2.2 t' ht' hn) ⟨rfl, rfl, rfl, fun _ _ => rfl⟩ (by rw [hq1]; simp [cc, cTh, tEx, lng, tci, sI, sL, fu, hk]) hq2
  refine wp_aload_n (pc := 5) dX9_callFirst_5 rfl rfl ?_
  refine wp_lload_n (pc := 6) dX9_callFirst_6 rfl rfl ?_
  refine wp_aload_n (pc := 7) dX9_callFirst_7 rfl rfl ?_
  refine wp_get (pc := 8) dX9_callFirst_8 fl_X9_41_10 (hR.thW ht hk) rfl ?_
  refine wp_i2l (pc := 11) dX9_callFirst_11 ?_
  refine wp_ladd (pc := 12) dX9_callFirst_12 ?_
  refine wp_putC (pc := 13) dX9_callFirst_13 fl_X9_23_10 (hR.thW ht hk) (Or.inl rfl) (Nat.le_of_ble_eq_true rfl) rfl rfl rfl (fun h hq1 hq2 => ?_)
  have hR := RH.k7 (A' := (A.1, A.2.1, A.2.2.1, fu A.2.2.2 t (c + (lng M t).toInt64))) hR (M' := sL (sL (sI M 20 t 1) 19 t (A.2.2.2 t)) 19 t (c + (lng M t).toInt64)) ((chg.refl _ _ _ _).sL (by decide) _) (vl_7.mpr ht) (fun t' ht' hn => by
    by_cases et : t' = t
    · subst et; rw [sL_at, if_pos ⟨rfl, rfl⟩]; exact fu_s ..
    · rw [sL_n _ _ _ _ et]; exact (fu_n _ _ et).trans (hR.2.2.2.2.2 t' ht' hn)) ⟨rfl, rfl, rfl, fun t' et => fu_n _ _ et⟩ (by rw [hq1]; simp [cc, cTh, tEx, lng, tci, sI, sL, fu, hk]) hq2
  exact wp_vret (pc := 16) dX9_callFirst_16 rfl ⟨rfl, by rw [← sL_sL (sI M 20 t 1) 19 t (A.2.2.2 t)]; exact hR⟩
end K9
