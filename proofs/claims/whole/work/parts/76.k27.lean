/-! ===== the class: a letter reaches the leader ===== -/
theorem lkM_I {M : MS} {t : Nat} (c : Int64) (h : thI M t) : thI (lkM M t c 0 (nx (M.2.1 21 t))) t := by
  have h20 := h.2.1
  obtain ⟨l1, -⟩ := lk_sT t c (nx (M.2.1 21 t)) 0 M (by rw [Nat.zero_add]; exact h.1) (by omega)
  obtain ⟨g8, -, z2, z3⟩ := lkM_cnt t c (nx (M.2.1 21 t)) 0 M (by rw [Nat.zero_add]; exact h.1)
  have hk : ∀ k, k ≠ 21 → k ∉ ([22, 23, 24] : List Nat) → (lkM M t c 0 (nx (M.2.1 21 t))).2.1 k t = M.2.1 k t := fun k a b => l1.2.1 k t a (Or.inl b)
  exact thI_of h z3 (by omega) (hk 16 (by decide) (by decide)) (hk 20 (by decide) (by decide)) (hk 12 (by decide) (by decide)) (hk 15 (by decide) (by decide)) (hk 14 (by decide) (by decide))
theorem lkR_I {M : MS} {t : Nat} (h : thI M t) : thI (lkR M t) t := by
  by_cases h3 : M.2.1 12 t = 3
  · obtain ⟨g1, g2, q1, q2, q3, q4, q5, q6⟩ := h
    unfold thI
    rw [lkR_2 M t 21 (by decide), lkR_2 M t 16 (by decide), lkR_2 M t 20 (by decide), lkR_2 M t 12 (by decide), lkR_2 M t 14 (by decide)]
    exact ⟨g1, g2, q1, q2, q3, q4, fun z => absurd h3 z, q6⟩
  · have e : lkR M t = M := by unfold lkR; rw [if_pos (h.2.2.2.2.2.2.1 h3)]
    rw [e]; exact h
theorem lkQ_I2 {M : MS} {t : Nat} (c : Int64) (h : thI M t) : thI (lkQ M t c) t := by
  by_cases h4 : M.2.1 12 t = 4
  · exact lkQ_I c h h4
  · have e : lkQ M t c = M := by unfold lkQ; rw [if_pos (h.2.2.2.2.2.1 h4).2]
    rw [e]; exact h
theorem lkC_I {M : MS} {t : Nat} (c : Int64) (h : thI M t) : thI (lkC M t c) t := by
  unfold lkC
  by_cases d1 : M.2.1 16 t ≤ 0
  · rw [if_pos d1]; exact h
  · rw [if_neg d1]
    by_cases d2 : M.2.1 21 t = 0
    · rw [if_pos d2]
      by_cases d3 : M.2.1 20 t = 0
      · rw [if_pos d3]
        obtain ⟨g1, g2, q1, q2, q3, q4, q5, q6⟩ := h
        have h0 : 0 < nx (M.2.1 16 t) := by
          rcases Nat.eq_zero_or_pos (nx (M.2.1 16 t)) with z | z
          · exact absurd (by rw [q1, z]; decide) d1
          · exact z
        unfold thI
        simp only [snd_k _ _ _ _ _ _ (show 21 < 36 ∨ 43 < 21 by decide), snd_k _ _ _ _ _ _ (show 16 < 36 ∨ 43 < 16 by decide), snd_k _ _ _ _ _ _ (show 20 < 36 ∨ 43 < 20 by decide), snd_k _ _ _ _ _ _ (show 12 < 36 ∨ 43 < 12 by decide), snd_k _ _ _ _ _ _ (show 15 < 36 ∨ 43 < 15 by decide), snd_k _ _ _ _ _ _ (show 14 < 36 ∨ 43 < 14 by decide), sL_1]
        refine ⟨g1, g2, q1, q2, fun _ => h0, fun z => ?_, q5, q6⟩
        exact absurd (by rw [show M.2.1 16 t = 0 from (q4 z).1]; decide) d1
      · rw [if_neg d3]; exact h
    · rw [if_neg d2]; exact h
theorem looks_thI {M : MS} {t : Nat} (h : thI M t) : thI (looksM M t) t := by
  unfold looksM
  exact lkC_I _ (lkQ_I2 _ (lkR_I (lkM_I _ h)))
theorem looks_21 {M : MS} {t : Nat} (h : thI M t) {t' : Nat} (ht : t' ≠ t) : (looksM M t).2.1 21 t' = M.2.1 21 t' := by
  have h20 := h.2.1
  unfold looksM
  simp only
  rw [(lkC_21 _ _ _).1, (lkQ_2 _ _ _).2 21 (by decide) (by decide) (by decide), lkR_2 _ _ 21 (by decide)]
  obtain ⟨l1, -⟩ := lk_sT t (kClk M (nx (M.1 27))) (nx (M.2.1 21 t)) 0 M (by rw [Nat.zero_add]; exact h.1) (by omega)
  exact l1.2.2.1 t' ht
theorem looks_tidy {M : MS} {t : Nat} (hT : tidy M) (h : thI M t) (hL : M.1 35 = nI (nx (M.1 35))) (hL4 : nx (M.1 35) < 400) : tidy (looksM M t) := by
  obtain ⟨a1, a2, a3, a4, a5⟩ := looks_ok M t
  have hi := looks_thI h
  refine ⟨fun t' ht' => ?_, fun y hy => ?_⟩
  · rw [a1 11 (by decide)] at ht'
    by_cases e : t' = t
    · subst e; exact hi.2.1
    · rw [looks_21 h e]; exact hT.1 t' ht'
  · rw [a1 11 (by decide), a3 54 (by omega), a3 55 (by omega)]
    have hc3 := cntS hL (by omega)
    have hz := hT.2 y hy
    refine ⟨hz.1, fun z => ?_⟩
    have := hz.2 z
    rcases a2 with e | e <;> rw [e]
    · exact this
    · rw [hc3.2.1]; omega
/-- what comes of a letter to a keeper -/
def rkF (M : MS) (j : Nat) : Int32 × MS := if M.1 27 = M.2.1 38 j then (if M.2.1 5 (nx (M.2.1 38 j)) = 0 then (0, M) else if isMst M = false then (0, M) else (1, tkM M j)) else (0, M)
theorem rk_0 {M : MS} {A : AD} {j b : Nat} (hb : b < nx (M.1 2)) (hkb : M.2.1 38 j = nI b) (hn5 : nx (M.1 2) ≤ 5) (hc : (if isMst M = true then oAt A 3 (M.1 27) (nx (M.1 2)) else none) = none) : rkF M j = (0, M) := by
  unfold rkF
  by_cases z : M.1 27 = M.2.1 38 j
  · rw [if_pos z]
    by_cases y : M.2.1 5 (nx (M.2.1 38 j)) = 0
    · rw [if_pos y]
    · rw [if_neg y]
      by_cases x : isMst M = true
      · rw [if_pos x, z, hkb, oAt_t hb (by omega)] at hc; cases hc
      · rw [if_pos (by simpa using x)]
  · rw [if_neg z]
def rnwM (M : MS) (j t : Nat) : MS := match mnt M j t with
  | none => lteM M j
  | some a => prlM M j t a
def endR (M : MS) (j t : Nat) : MS := match mnt M j t with
  | none => M
  | some a => looksM (goM M t a (nx (M.2.1 21 t) - 1 - a)) t
theorem tk_0 {M M2 : MS} {j t : Nat} (htx : nx (M.2.1 39 j) = t) (hM2 : M2 = looksM M t) (h : M2.2.1 36 j = 0) : tkM M j = askM M2 j t := by
  subst hM2; subst htx; unfold tkM; simp only; rw [if_pos h]
theorem tk_1 {M M2 : MS} {j t : Nat} (htx : nx (M.2.1 39 j) = t) (hM2 : M2 = looksM M t) (h : M2.2.1 36 j = 1) : tkM M j = rnwM M2 j t := by
  subst hM2; subst htx; unfold tkM rnwM; simp only; rw [if_neg (by rw [h]; decide), if_pos h]
  cases mnt (looksM M (nx (M.2.1 39 j))) j (nx (M.2.1 39 j)) <;> rfl
theorem tk_2 {M M2 : MS} {j t : Nat} (htx : nx (M.2.1 39 j) = t) (hM2 : M2 = looksM M t) (h : M2.2.1 36 j = 2) : tkM M j = endR M2 j t := by
  subst hM2; subst htx; unfold tkM endR; simp only; rw [if_neg (by rw [h]; decide), if_neg (by rw [h]; decide), if_pos h]
  cases mnt (looksM M (nx (M.2.1 39 j))) j (nx (M.2.1 39 j)) <;> rfl
theorem tk_3 {M M2 : MS} {j t : Nat} (htx : nx (M.2.1 39 j) = t) (hM2 : M2 = looksM M t) (h0 : ¬ M2.2.1 36 j = 0) (h1 : ¬ M2.2.1 36 j = 1) (h2 : ¬ M2.2.1 36 j = 2) : tkM M j = risM M2 j t := by
  subst hM2; subst htx; unfold tkM; simp only; rw [if_neg h0, if_neg h1, if_neg h2]
section K27
variable (l : Launch) (G : WG) {hp h : Hp} {A : AD} {M : MS}
theorem c_hearRenew2 {j t : Nat} (hR : RH G hp A M h) (hT : tidy M) (hL : M.1 35 = nI (nx (M.1 35))) (hL4 : nx (M.1 35) < 400) (hj : j < nx (M.1 35)) (ht : t < nx (M.1 11)) : SpN l G mX11_hearRenew [.ref (A.1 0 0), .ref (A.1 9 j), .ref (A.1 7 t), .long (kClk M (nx (M.1 27)))] h (fun h' => ∃ A', RH G hp A' (rnwM M j t) h' ∧ ext A M A') := by
  have z := c_hearRenew l G hR hT hL hL4 hj ht
  refine z.mono (fun v h' q => ?_)
  obtain ⟨e, A', h1, h2⟩ := q
  refine ⟨e, A', ?_, h2⟩
  unfold rnwM
  cases hm : mnt M j t with
  | none => rw [hm] at h1; exact h1
  | some a => rw [hm] at h1; exact h1
theorem c_hearEnd2 {j t : Nat} (hR : RH G hp A M h) (hT : tidy M) (hL : M.1 35 = nI (nx (M.1 35))) (hL4 : nx (M.1 35) < 400) (hj : j < nx (M.1 35)) (ht : t < nx (M.1 11)) (hb : bnd M) (hTI : thI M t) (htj : M.2.1 39 j = nI t) (hU : ∀ p q, p < nx (M.2.1 21 t) → q < nx (M.2.1 21 t) → M.2.1 22 (20 * t + p) = M.2.1 22 (20 * t + q) → p = q) : SpN l G mX11_hearEnd [.ref (A.1 0 0), .ref (A.1 9 j), .ref (A.1 7 t), .long (kClk M (nx (M.1 27)))] h (fun h' => ∃ A', RH G hp A' (endR M j t) h' ∧ ext A M A') := by
  have z := c_hearEnd l G hR hT hL hL4 hj ht hb hTI htj hU
  refine z.mono (fun v h' q => ?_)
  obtain ⟨e, A', h1, h2⟩ := q
  refine ⟨e, A', ?_, h2⟩
  unfold endR
  cases hm : mnt M j t with
  | none => rw [hm] at h1; exact h1
  | some a => rw [hm] at h1; exact h1
set_option maxHeartbeats 2000000 in
theorem c_reachKeeper {j t : Nat} (hR : RH G hp A M h) (hb : bnd M) (hK : M.1 2 = nI (nx (M.1 2))) (hT : tidy M) (hL : M.1 35 = nI (nx (M.1 35))) (hL3 : nx (M.1 35) + 3 ≤ 400) (hj : j < nx (M.1 35)) (ht : t < nx (M.1 11)) (htj : M.2.1 39 j = nI t) (hTI : thI M t) {b : Nat} (hbK : b < nx (M.1 2)) (hkb : M.2.1 38 j = nI b) (hLd : M.1 27 = -1 ∨ ∃ k, k < nx (M.1 2) ∧ M.1 27 = nI k ∧ ¬ M.2.1 5 k = 0) (hw0 : ¬ M.2.1 37 j = -1) (hk3 : ¬ M.2.1 36 j = 0 → ¬ M.2.1 36 j = 1 → ¬ M.2.1 36 j = 2 → M.2.1 12 t = 3) (hgn : gof (looksM M t) t ((looksM M t).2.1 37 j) (nx ((looksM M t).2.1 21 t)) = none → nx ((looksM M t).2.1 21 t) < 20) (hU : ∀ p q, p < nx ((looksM M t).2.1 21 t) → q < nx ((looksM M t).2.1 21 t) → (looksM M t).2.1 22 (20 * t + p) = (looksM M t).2.1 22 (20 * t + q) → p = q) : SpV l G mX11_reachKeeper [.ref (A.1 0 0), .ref (A.1 9 j)] h (fun r h' => r = .int (rkF M j).1 ∧ ∃ A', RH G hp A' (rkF M j).2 h' ∧ ext A M A') := by
  refine Sp.intro (lv := [_, _, _, _, _, _]) (by decide) rfl (Nat.le_of_ble_eq_true rfl) ?_
  refine wp_widen (rc' := 6) (rs' := 1825) (Nat.le_refl _) (Nat.le_refl _) ?_
  have hb9 := hb
  unfold bnd at hb9
  refine wp_aload_n (pc := 0) dX11_reachKeeper_0 rfl rfl ?_
  refine wc_VP (pc := 1) (μ2 := mX11_ableLeader) (rc := 6) (rs := 1825) [] dX11_reachKeeper_1 rfl hR.bd rfl cv_X11_246_12 rfl ⟨(Nat.le_of_ble_eq_true rfl), (Nat.le_of_ble_eq_true rfl)⟩ (Nat.le_of_ble_eq_true rfl) (c_ableLeader l G hR hb hK) ?_
  refine wp_astore_nQ (pc := 4) (lv' := [_, _, _, _, _, _]) dX11_reachKeeper_4 rfl (Nat.le_of_ble_eq_true rfl) rfl rfl ?_
  refine wp_aload_n (pc := 5) dX11_reachKeeper_5 rfl rfl ?_
  refine wp_aload_n (pc := 6) dX11_reachKeeper_6 rfl rfl ?_
  refine wp_get (pc := 7) dX11_reachKeeper_7 fl_X11_230_3 (hR.lt hj) rfl ?_
  refine wc_VP (pc := 10) (μ2 := mX11_thingAt) (rc := 6) (rs := 1825) [_] dX11_reachKeeper_10 rfl hR.bd rfl cv_X11_156_12 rfl ⟨(Nat.le_of_ble_eq_true rfl), (Nat.le_of_ble_eq_true rfl)⟩ (Nat.le_of_ble_eq_true rfl) (c_thingAt l G _ hR hb) ?_
  rw [htj, oAt_t ht (by omega)]
  refine wp_astore_n (pc := 13) (lv' := [_, _, _, _, _, _]) dX11_reachKeeper_13 rfl (Nat.le_of_ble_eq_true rfl) (by simp [lv9, cat2_rf]) rfl ?_
  refine wp_aload_nQ (pc := 14) dX11_reachKeeper_14 rfl rfl ?_
  refine wp_ifnull (pc := 15) (tgt := 33) dX11_reachKeeper_15 (by decide) (fun c15 => ?_) (fun a15 c15 => ?_)
  · skip
    refine wp_iconst (pc := 33) (v := 0) dX11_reachKeeper_33 (by decide) ?_
    exact wp_iret (pc := 34) dX11_reachKeeper_34 rfl ⟨_, rfl, by rw [rk_0 hbK hkb hb9.1 c15], A, by rw [rk_0 hbK hkb hb9.1 c15]; exact hR, ext.refl A M⟩
  · have hmo : isMst M = true ∧ ∃ k, k < nx (M.1 2) ∧ M.1 27 = nI k ∧ a15 = A.1 3 k := by
      by_cases z : isMst M = true
      · rw [if_pos z] at c15
        obtain ⟨k, hk, e, e'⟩ := oAt_s c15 (by omega)
        exact ⟨z, k, hk, e, e'⟩
      · rw [if_neg z] at c15; cases c15
    obtain ⟨hmst, k, hk, e27, rfl⟩ := hmo
    rw [c15]
    have ek : nx (M.1 27) = k := by rw [e27]; exact nx_nI (by omega)
    have n1 : ¬ M.1 27 = -1 := by rw [e27]; exact nI_m1 (by omega)
    refine wp_aload_n (pc := 18) dX11_reachKeeper_18 rfl rfl ?_
    refine wp_ifnullR (pc := 19) dX11_reachKeeper_19 ?_
    refine wp_aload_n (pc := 22) dX11_reachKeeper_22 rfl rfl ?_
    refine wp_get (pc := 23) dX11_reachKeeper_23 fl_X11_227_3 (hR.lt hj) rfl ?_
    refine wp_aload_n (pc := 26) dX11_reachKeeper_26 rfl rfl ?_
    refine wp_get (pc := 27) dX11_reachKeeper_27 fl_X11_46_12 hR.bd rfl ?_
    refine wp_icmp_eq (pc := 30) (tgt := 35) dX11_reachKeeper_30 (by decide) (fun c30 => ?_) (fun c30 => ?_)
    · have hf : rkF M j = (1, tkM M j) := by
        obtain ⟨k', hk', e', ha'⟩ := hLd.resolve_left n1
        unfold rkF
        rw [if_pos c30.symm, if_neg (by rw [c30, e', nx_nI (by omega)]; exact ha'), if_neg (by rw [hmst]; decide)]
      have htx : nx (M.2.1 39 j) = t := by rw [htj]; exact nx_nI (by omega)
      refine wp_aload_n (pc := 35) dX11_reachKeeper_35 rfl rfl ?_
      refine wp_aload_n (pc := 36) dX11_reachKeeper_36 rfl rfl ?_
      refine wp_get (pc := 37) dX11_reachKeeper_37 fl_X11_43_12 hR.bd rfl ?_
      refine wc_VP (pc := 40) (μ2 := mX5_shows) (rc := 6) (rs := 1825) [_] dX11_reachKeeper_40 rfl (hR.kp hk) rfl cv_X11_119_6 rfl ⟨(Nat.le_of_ble_eq_true rfl), (Nat.le_of_ble_eq_true rfl)⟩ (Nat.le_of_ble_eq_true rfl) (c_shows6 l G _ (hR.kp hk)) ?_
      rw [show shw (M.2.1 3 k) (M.2.1 4 k) (M.1 1) = kClk M (nx (M.1 27)) by rw [ek]; rfl]
      refine wp_lstore (pc := 43) (lv' := [_, _, _, _, _, _]) dX11_reachKeeper_43 (Nat.le_of_ble_eq_true rfl) rfl rfl ?_
      refine wp_aload_n (pc := 45) dX11_reachKeeper_45 rfl rfl ?_
      refine wp_aload_n (pc := 46) dX11_reachKeeper_46 rfl rfl ?_
      refine wp_aload_n (pc := 47) dX11_reachKeeper_47 rfl rfl ?_
      refine wp_get (pc := 48) dX11_reachKeeper_48 fl_X11_230_3 (hR.lt hj) rfl ?_
      rw [htj]
      refine wp_lload (pc := 51) dX11_reachKeeper_51 rfl ?_
      refine wc_VN (pc := 53) (μ2 := mX11_lookAt) (rc := 4) (rs := 1215) [_, _, _] dX11_reachKeeper_53 rfl hR.bd rfl cv_X11_250_12 rfl ⟨(Nat.le_of_ble_eq_true rfl), (Nat.le_of_ble_eq_true rfl)⟩ (Nat.le_of_ble_eq_true rfl) (c_lookAt l G _ hR hb hT hL (by omega) ht hTI rfl) (fun h q => ?_)
      obtain ⟨A1, hR, hE1⟩ := q
      obtain ⟨M2, hM2⟩ : ∃ M2, M2 = looksM M t := ⟨_, rfl⟩
      obtain ⟨a1, a2, a3, a4, a5⟩ := looks_ok M t
      have hTI2 := looks_thI hTI
      have hT2 := looks_tidy hT hTI hL (by omega)
      rw [← hM2] at hR hgn hU a1 a2 a3 a4 a5 hTI2 hT2
      have hc3 := cntS hL (by omega)
      have hL2 : M2.1 35 = nI (nx (M2.1 35)) ∧ nx (M.1 35) ≤ nx (M2.1 35) ∧ nx (M2.1 35) < 400 := by
        rcases a2 with e | e <;> rw [e]
        · exact ⟨hL, Nat.le_refl _, by omega⟩
        · exact ⟨hc3.1.symm, by rw [hc3.2.1]; omega, by rw [hc3.2.1]; omega⟩
      have hj2 : j < nx (M2.1 35) := Nat.lt_of_lt_of_le hj hL2.2.1
      have ht2 : t < nx (M2.1 11) := by rw [a1 11 (by decide)]; exact ht
      have hb2 : bnd M2 := by
        unfold bnd
        rw [a1 2 (by decide), a1 6 (by decide), a1 11 (by decide), a1 46 (by decide)]
        exact ⟨by omega, by omega, by omega, by omega, by omega⟩
      have hjL : j ≠ nx (M.1 35) := by omega
      have htj2 : M2.2.1 39 j = nI t := by rw [a4 39 j (by decide) hjL]; exact htj
      have hw2 : ¬ M2.2.1 37 j = -1 := by rw [a4 37 j (by decide) hjL]; exact hw0
      have h36 : M2.2.1 36 j = M.2.1 36 j := a4 36 j (by decide) hjL
      have hck : kClk M (nx (M.1 27)) = kClk M2 (nx (M2.1 27)) := by unfold kClk; rw [a1 27 (by decide), a1 1 (by decide), a3 3 (by omega), a3 4 (by omega)]
      have hgr : grw M M2 := ⟨by rw [a1 2 (by decide)]; exact Nat.le_refl _, by rw [a1 6 (by decide)]; exact Nat.le_refl _, by rw [a1 11 (by decide)]; exact Nat.le_refl _, hL2.2.1, fun i => by rw [a3 12 (by omega)], fun i => by rw [a3 54 (by omega)]⟩
      have e0 : A1.1 0 0 = A.1 0 0 := hE1 0 0 (by decide) (by decide) (vl_0.mpr rfl)
      have e7 : A1.1 7 t = A.1 7 t := hE1 7 t (by decide) (by decide) (vl_7.mpr ht)
      have e9 : A1.1 9 j = A.1 9 j := hE1 9 j (by decide) (by decide) (vl_9.mpr hj)
      rw [← e0, ← e7, ← e9, hck]
      refine wp_aload_n (pc := 56) dX11_reachKeeper_56 rfl rfl ?_
      refine wp_get (pc := 57) dX11_reachKeeper_57 fl_X11_221_3 (hR.lt hj2) rfl ?_
      refine wp_tsw_0_2 (pc := 60) dX11_reachKeeper_60 (t0 := 88) (t1 := 99) (t2 := 110) (td := 121) (by decide) (by decide) (by decide) (by decide) (fun c60 => ?_) (fun c60 => ?_) (fun c60 => ?_) (fun c60 => ?_)
      · have hS := tk_0 htx hM2 c60
        refine wp_aload_n (pc := 88) dX11_reachKeeper_88 rfl rfl ?_
        refine wp_aload_n (pc := 89) dX11_reachKeeper_89 rfl rfl ?_
        refine wp_aload_n (pc := 90) dX11_reachKeeper_90 rfl rfl ?_
        refine wp_lload (pc := 91) dX11_reachKeeper_91 rfl ?_
        refine wc_VN (pc := 93) (μ2 := mX11_hearAsk) (rc := 0) (rs := 0) [_, _, _] dX11_reachKeeper_93 rfl hR.bd rfl cv_X11_409_12 rfl ⟨(Nat.le_of_ble_eq_true rfl), (Nat.le_of_ble_eq_true rfl)⟩ (Nat.le_of_ble_eq_true rfl) (c_hearAsk l G hR hT2 hL2.1 hL2.2.2 hj2 ht2 hTI2 hgn hw2) (fun h q => ?_)
        obtain ⟨A9, hR, hE⟩ := q
        refine wp_goto (pc := 96) (tgt := 129) dX11_reachKeeper_96 (by decide) ?_
        refine wp_iconst (pc := 129) (v := 1) dX11_reachKeeper_129 (by decide) ?_
        exact wp_iret (pc := 130) dX11_reachKeeper_130 rfl ⟨_, rfl, by rw [hf], A9, by rw [hf, hS]; exact hR, hE1.tr hE hgr⟩
      · have hS := tk_1 htx hM2 c60
        refine wp_aload_n (pc := 99) dX11_reachKeeper_99 rfl rfl ?_
        refine wp_aload_n (pc := 100) dX11_reachKeeper_100 rfl rfl ?_
        refine wp_aload_n (pc := 101) dX11_reachKeeper_101 rfl rfl ?_
        refine wp_lload (pc := 102) dX11_reachKeeper_102 rfl ?_
        refine wc_VN (pc := 104) (μ2 := mX11_hearRenew) (rc := 2) (rs := 605) [_, _, _] dX11_reachKeeper_104 rfl hR.bd rfl cv_X11_413_12 rfl ⟨(Nat.le_of_ble_eq_true rfl), (Nat.le_of_ble_eq_true rfl)⟩ (Nat.le_of_ble_eq_true rfl) (c_hearRenew2 l G hR hT2 hL2.1 hL2.2.2 hj2 ht2) (fun h q => ?_)
        obtain ⟨A9, hR, hE⟩ := q
        refine wp_goto (pc := 107) (tgt := 129) dX11_reachKeeper_107 (by decide) ?_
        refine wp_iconst (pc := 129) (v := 1) dX11_reachKeeper_129 (by decide) ?_
        exact wp_iret (pc := 130) dX11_reachKeeper_130 rfl ⟨_, rfl, by rw [hf], A9, by rw [hf, hS]; exact hR, hE1.tr hE hgr⟩
      · have hS := tk_2 htx hM2 c60
        refine wp_aload_n (pc := 110) dX11_reachKeeper_110 rfl rfl ?_
        refine wp_aload_n (pc := 111) dX11_reachKeeper_111 rfl rfl ?_
        refine wp_aload_n (pc := 112) dX11_reachKeeper_112 rfl rfl ?_
        refine wp_lload (pc := 113) dX11_reachKeeper_113 rfl ?_
        refine wc_VN (pc := 115) (μ2 := mX11_hearEnd) (rc := 2) (rs := 605) [_, _, _] dX11_reachKeeper_115 rfl hR.bd rfl cv_X11_416_12 rfl ⟨(Nat.le_of_ble_eq_true rfl), (Nat.le_of_ble_eq_true rfl)⟩ (Nat.le_of_ble_eq_true rfl) (c_hearEnd2 l G hR hT2 hL2.1 hL2.2.2 hj2 ht2 hb2 hTI2 htj2 hU) (fun h q => ?_)
        obtain ⟨A9, hR, hE⟩ := q
        refine wp_goto (pc := 118) (tgt := 129) dX11_reachKeeper_118 (by decide) ?_
        refine wp_iconst (pc := 129) (v := 1) dX11_reachKeeper_129 (by decide) ?_
        exact wp_iret (pc := 130) dX11_reachKeeper_130 rfl ⟨_, rfl, by rw [hf], A9, by rw [hf, hS]; exact hR, hE1.tr hE hgr⟩
      · have n0 := sw_ne c60 (v := 0) (by decide)
        have n2 := sw_ne c60 (v := 1) (by decide)
        have n3 := sw_ne c60 (v := 2) (by decide)
        have hS := tk_3 htx hM2 n0 n2 n3
        have hk2 : M2.2.1 12 t = 3 := by rw [a3 12 (by omega)]; exact hk3 (by rw [← h36]; exact n0) (by rw [← h36]; exact n2) (by rw [← h36]; exact n3)
        refine wp_aload_n (pc := 121) dX11_reachKeeper_121 rfl rfl ?_
        refine wp_aload_n (pc := 122) dX11_reachKeeper_122 rfl rfl ?_
        refine wp_aload_n (pc := 123) dX11_reachKeeper_123 rfl rfl ?_
        refine wp_lload (pc := 124) dX11_reachKeeper_124 rfl ?_
        refine wc_VN (pc := 126) (μ2 := mX11_hearRise) (rc := 2) (rs := 605) [_, _, _] dX11_reachKeeper_126 rfl hR.bd rfl cv_X11_419_12 rfl ⟨(Nat.le_of_ble_eq_true rfl), (Nat.le_of_ble_eq_true rfl)⟩ (Nat.le_of_ble_eq_true rfl) (c_hearRise l G hR hT2 hL2.1 hL2.2.2 hj2 ht2 hk2 hTI2.1) (fun h q => ?_)
        obtain ⟨A9, hR, hE⟩ := q
        refine wp_iconst (pc := 129) (v := 1) dX11_reachKeeper_129 (by decide) ?_
        exact wp_iret (pc := 130) dX11_reachKeeper_130 rfl ⟨_, rfl, by rw [hf], A9, by rw [hf, hS]; exact hR, hE1.tr hE hgr⟩
    · skip
      refine wp_iconst (pc := 33) (v := 0) dX11_reachKeeper_33 (by decide) ?_
      exact wp_iret (pc := 34) dX11_reachKeeper_34 rfl ⟨_, rfl, by unfold rkF; rw [if_neg (fun z => c30 z.symm)], A, by unfold rkF; rw [if_neg (fun z => c30 z.symm)]; exact hR, ext.refl A M⟩
end K27
