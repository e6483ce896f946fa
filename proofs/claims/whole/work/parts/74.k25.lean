/-! ===== the class: RISE, ASK are heard ===== -/
def gaD (N : MS) (t g : Nat) (w m p : Int32) : MS := sI (sI (sI (sI N 21 t (N.2.1 21 t + 1)) 22 (20 * t + g) w) 23 (20 * t + g) m) 24 (20 * t + g) p
def gaF (N : MS) (t g : Nat) (w m p : Int32) : MS := grtM (gaD N t g w m p) t g
theorem ga_eq (M : MS) (t g : Nat) (w m p : Int32) : grtM (sL (sL (gaD M t g w m p) 25 (20 * t + g) 0) 26 (20 * t + g) 0) t g = gaF M t g w m p := by
  unfold gaF
  rw [grt_eq, grt_eq]
  refine ms_ext (fun _ => rfl) (fun _ _ => rfl) (fun k i => ?_)
  show (sL (sL (sL (sL (sL _ 25 _ 0) 26 _ 0) 18 t _) 25 _ _) 26 _ _).2.2 k i = (sL (sL (sL _ 18 t _) 25 _ _) 26 _ _).2.2 k i
  simp only [sL_at]
  by_cases h26 : k = 26 ∧ i = 20 * t + g
  · simp only [h26, and_self, if_true]; rfl
  · by_cases h25 : k = 25 ∧ i = 20 * t + g
    · simp only [h25, h26, and_self, if_true, if_false, (by decide : ((25 : Nat) = 26) = False), (by decide : ((18 : Nat) = 26) = False), (by decide : ((18 : Nat) = 25) = False), false_and]
    · simp only [h25, h26, if_false, (by decide : ((18 : Nat) = 26) = False), (by decide : ((18 : Nat) = 25) = False), false_and]
theorem askG_eq (N : MS) (j t : Nat) : askG N j t = grsM (gaF N t (nx (N.2.1 21 t)) (N.2.1 37 j) (N.2.1 40 j) (N.2.1 41 j)) j t (nx (N.2.1 21 t)) := rfl
theorem uq_c {A B : MS} (h16 : A.2.1 16 = B.2.1 16) (h17 : A.2.1 17 = B.2.1 17) (t : Nat) : ∀ n, (uqM A t 0 n).2.1 16 = (uqM B t 0 n).2.1 16 ∧ (uqM A t 0 n).2.1 17 = (uqM B t 0 n).2.1 17
  | 0 => ⟨by show fu (A.2.1 16) t (A.2.1 16 t - 1) = fu (B.2.1 16) t (B.2.1 16 t - 1); rw [h16], h17⟩
  | n + 1 => by
    obtain ⟨a, b⟩ := uq_c h16 h17 t n
    refine ⟨a, ?_⟩
    show fu ((uqM A t 0 n).2.1 17) (8 * t + (0 + n)) ((uqM A t 0 n).2.1 17 (8 * t + (0 + n) + 1)) = fu ((uqM B t 0 n).2.1 17) (8 * t + (0 + n)) ((uqM B t 0 n).2.1 17 (8 * t + (0 + n) + 1))
    rw [b]
theorem unq_c {A B : MS} (h16 : A.2.1 16 = B.2.1 16) (h17 : A.2.1 17 = B.2.1 17) (h20 : A.2.1 20 = B.2.1 20) (t q : Nat) : (unqM A t 0 q).2.1 16 = (unqM B t 0 q).2.1 16 ∧ (unqM A t 0 q).2.1 17 = (unqM B t 0 q).2.1 17 ∧ (unqM A t 0 q).2.1 20 = (unqM B t 0 q).2.1 20 := by
  obtain ⟨a, b⟩ := uq_c h16 h17 t (q - 1 - 0)
  unfold unqM
  rw [if_pos rfl, if_pos rfl]
  refine ⟨a, b, ?_⟩
  show fu ((uqM A t 0 (q - 1 - 0)).2.1 20) t 0 = fu ((uqM B t 0 (q - 1 - 0)).2.1 20) t 0
  rw [(uqM_cnt A t 0 (q - 1 - 0)).2.2 20 (by decide) (by decide), (uqM_cnt B t 0 (q - 1 - 0)).2.2 20 (by decide) (by decide), h20]
theorem gaF_2 (N : MS) (t g : Nat) (w m p : Int32) : (gaF N t g w m p).2.1 = (gaD N t g w m p).2.1 := rfl
theorem gaF_1 (N : MS) (t g : Nat) (w m p : Int32) : (gaF N t g w m p).1 = fu N.1 49 (N.1 49 + 1) := rfl
theorem gaD_k (N : MS) (t g : Nat) (w m p : Int32) {k : Nat} (h : k ≠ 21 ∧ k ≠ 22 ∧ k ≠ 23 ∧ k ≠ 24) : (gaD N t g w m p).2.1 k = N.2.1 k := by
  unfold gaD
  rw [sI_k _ _ _ h.2.2.2, sI_k _ _ _ h.2.2.1, sI_k _ _ _ h.2.1, sI_k _ _ _ h.1]
theorem ga_unq (M : MS) (t g q : Nat) (w m p : Int32) : unqM (gaF M t g w m p) t 0 q = gaF (unqM M t 0 q) t g w m p := by
  have hS := unqM_same M t 0 q
  have hF := unqM_same (gaF M t g w m p) t 0 q
  have hc := unq_c (A := gaF M t g w m p) (B := M) (by rw [gaF_2, gaD_k _ _ _ _ _ _ (by decide)]) (by rw [gaF_2, gaD_k _ _ _ _ _ _ (by decide)]) (by rw [gaF_2, gaD_k _ _ _ _ _ _ (by decide)]) t q
  refine ms_ext (fun k => ?_) (fun k i => ?_) (fun k i => ?_)
  · rw [hF.1, gaF_1, gaF_1, hS.1]
  · rw [gaF_2]
    by_cases h16 : k = 16
    · subst h16; rw [hc.1, gaD_k _ _ _ _ _ _ (by decide)]
    · by_cases h17 : k = 17
      · subst h17; rw [hc.2.1, gaD_k _ _ _ _ _ _ (by decide)]
      · by_cases h20 : k = 20
        · subst h20; rw [hc.2.2, gaD_k _ _ _ _ _ _ (by decide)]
        · rw [hF.2.2 k h16 h17 h20, gaF_2]
          unfold gaD
          simp only [sI_at, hS.2.2 k h16 h17 h20, hS.2.2 21 (by decide) (by decide) (by decide)]
  · rw [hF.2.1]
    unfold gaF
    rw [grt_eq, grt_eq, sS_2, sS_2]
    have e1 : kClk (gaD (unqM M t 0 q) t g w m p) (nx ((gaD (unqM M t 0 q) t g w m p).1 27)) = kClk (gaD M t g w m p) (nx ((gaD M t g w m p).1 27)) := by
      unfold kClk
      rw [gaD_k _ _ _ _ _ _ (by decide), gaD_k _ _ _ _ _ _ (by decide), gaD_k _ _ _ _ _ _ (by decide), gaD_k _ _ _ _ _ _ (by decide), hS.2.2 3 (by decide) (by decide) (by decide), hS.2.2 4 (by decide) (by decide) (by decide)]
      show _ + ((unqM M t 0 q).1 1).toInt64 * _ / 1000 = _
      rw [hS.1]
      show (M.2.1 3 (nx ((unqM M t 0 q).1 27))).toInt64 + _ * (M.2.1 4 (nx ((unqM M t 0 q).1 27))).toInt64 / 1000 = _
      rw [hS.1]
      rfl
    have e2 : lng (gaD (unqM M t 0 q) t g w m p) t = lng (gaD M t g w m p) t := by
      unfold lng
      rw [gaD_k _ _ _ _ _ _ (by decide), gaD_k _ _ _ _ _ _ (by decide), hS.2.2 13 (by decide) (by decide) (by decide)]
      show (M.2.1 13 t * (1000 + (unqM M t 0 q).1 0) + (1000 - (unqM M t 0 q).1 0) - 1) / (1000 - (unqM M t 0 q).1 0) + 2 = _
      rw [hS.1]
      rfl
    rw [e1, e2]
    show _ = (sL (sL (sL (gaD (unqM M t 0 q) t g w m p) 18 t ((unqM M t 0 q).2.2 18 t + 1)) 25 (20 * t + g) ((unqM M t 0 q).2.2 18 t + 1)) 26 (20 * t + g) _).2.2 k i
    simp only [sL_at]
    show _ = (if k = 26 ∧ i = 20 * t + g then _ else if k = 25 ∧ i = 20 * t + g then _ else if k = 18 ∧ i = t then _ else (unqM M t 0 q).2.2 k i)
    rw [hS.2.1]
    rfl
section K25
variable (l : Launch) (G : WG) {hp h : Hp} {A : AD} {M : MS}
theorem c_hearRise {j t : Nat} (hR : RH G hp A M h) (hT : tidy M) (hL : M.1 35 = nI (nx (M.1 35))) (hL4 : nx (M.1 35) < 400) (hj : j < nx (M.1 35)) (ht : t < nx (M.1 11)) (hk : M.2.1 12 t = 3) (hg : M.2.1 21 t = nI (nx (M.2.1 21 t))) : SpN l G mX11_hearRise [.ref (A.1 0 0), .ref (A.1 9 j), .ref (A.1 7 t), .long (kClk M (nx (M.1 27)))] h (fun h' => ∃ A', RH G hp A' (risM M j t) h' ∧ ext A M A') := by
  refine Sp.intro (lv := [_, _, _, _, _, _, _]) (by decide) rfl (Nat.le_of_ble_eq_true rfl) ?_
  refine wp_widen (rc' := 2) (rs' := 610) (Nat.le_refl _) (Nat.le_refl _) ?_
  have h20 := hT.1 t ht
  refine wp_aload_n (pc := 0) dX11_hearRise_0 rfl rfl ?_
  refine wp_aload_n (pc := 1) dX11_hearRise_1 rfl rfl ?_
  refine wc_VP (pc := 2) (μ2 := mX4_grantMeantBy) (rc := 2) (rs := 610) [_] dX11_hearRise_2 rfl (hR.thR ht hk) rfl cv_X11_473_7 rfl ⟨(Nat.le_of_ble_eq_true rfl), (Nat.le_of_ble_eq_true rfl)⟩ (Nat.le_of_ble_eq_true rfl) (c_grantMeantBy l G hR hT ht hj) ?_
  refine wp_astoreQ (pc := 5) (lv' := [_, _, _, _, _, _, _]) dX11_hearRise_5 (Nat.le_of_ble_eq_true rfl) rfl rfl ?_
  refine wp_aloadQ (pc := 7) dX11_hearRise_7 rfl ?_
  refine wp_ifnonnull (pc := 9) (tgt := 20) dX11_hearRise_9 (by decide) (fun a9 c9 => ?_) (fun c9 => ?_)
  · obtain ⟨a, g0, ha, rfl⟩ := gMn_s c9
    rw [c9]
    refine wp_aload (pc := 20) dX11_hearRise_20 rfl ?_
    refine wp_get (pc := 22) dX11_hearRise_22 fl_X11_264_2 (hR.gi hT ht ha) rfl ?_
    refine wp_if_ne (pc := 25) (tgt := 50) dX11_hearRise_25 (by decide) (fun c25 => ?_) (fun c25 => ?_)
    · skip
      refine wp_aload_n (pc := 50) dX11_hearRise_50 rfl rfl ?_
      refine wp_instY (pc := 51) dX11_hearRise_51 (hR.thR ht hk) ca_X11_203_7 ?_
      refine wp_if_eq (pc := 54) (tgt := 73) dX11_hearRise_54 (by decide) (fun z => absurd z (by decide)) (fun _ => ?_)
      refine wp_aload_n (pc := 57) dX11_hearRise_57 rfl rfl ?_
      refine wp_cast (pc := 58) dX11_hearRise_58 (hR.thR ht hk) ca_X11_203_7 ?_
      refine wp_astore (pc := 61) (lv' := [_, _, _, _, _, _, _]) dX11_hearRise_61 (Nat.le_of_ble_eq_true rfl) rfl rfl ?_
      refine wp_aload_n (pc := 63) dX11_hearRise_63 rfl rfl ?_
      refine wp_aload_n (pc := 64) dX11_hearRise_64 rfl rfl ?_
      refine wp_aload (pc := 65) dX11_hearRise_65 rfl ?_
      refine wp_aload (pc := 67) dX11_hearRise_67 rfl ?_
      refine wp_lload_n (pc := 69) dX11_hearRise_69 rfl rfl ?_
      refine wc_VN (pc := 70) (μ2 := mX11_riseReader) (rc := 0) (rs := 0) [_, _, _, _] dX11_hearRise_70 rfl hR.bd rfl cv_X11_483_12 rfl ⟨(Nat.le_of_ble_eq_true rfl), (Nat.le_of_ble_eq_true rfl)⟩ (Nat.le_of_ble_eq_true rfl) (c_riseReader l G hR hT hL hL4 hj ht hk ha hg) (fun h q => ?_)
      obtain ⟨A9, hR, hE⟩ := q
      exact wp_vret (pc := 73) dX11_hearRise_73 rfl ⟨rfl, A9, by unfold risM; rw [g0]; simp only [if_neg c25]; exact hR, hE⟩
    · skip
      refine wp_aload (pc := 28) dX11_hearRise_28 rfl ?_
      refine wp_lload_n (pc := 30) dX11_hearRise_30 rfl rfl ?_
      refine wp_aload_n (pc := 31) dX11_hearRise_31 rfl rfl ?_
      refine wp_get (pc := 32) dX11_hearRise_32 fl_X11_274_7 (hR.thR ht hk) rfl ?_
      refine wp_i2l (pc := 35) dX11_hearRise_35 ?_
      refine wp_ladd (pc := 36) dX11_hearRise_36 ?_
      refine wp_putC (pc := 37) dX11_hearRise_37 fl_X11_267_2 (hR.gi hT ht ha) (Or.inl rfl) (Nat.le_of_ble_eq_true rfl) rfl rfl rfl (fun h hq1 hq2 => ?_)
      have hR := hR.k8 (M' := sL (M) 26 (20 * t + a) (kClk M (nx (M.1 27)) + (lng M t).toInt64)) ((chg.refl _ _ _ _).sL (by decide) _) (vl8 (by omega) ht ha) (by rw [hq1]; simp [cc, cGr, sI, sL, sS, fu]) hq2
      refine wp_aload_n (pc := 40) dX11_hearRise_40 rfl rfl ?_
      refine wp_aload_n (pc := 41) dX11_hearRise_41 rfl rfl ?_
      refine wp_aload (pc := 42) dX11_hearRise_42 rfl ?_
      refine wc_VN (pc := 44) (μ2 := mX11_answerGrant) (rc := 0) (rs := 0) [_, _] dX11_hearRise_44 rfl hR.bd rfl cv_X11_459_12 rfl ⟨(Nat.le_of_ble_eq_true rfl), (Nat.le_of_ble_eq_true rfl)⟩ (Nat.le_of_ble_eq_true rfl) (c_answerGrant (M := sL M 26 (20 * t + a) (kClk M (nx (M.1 27)) + (lng M t).toInt64)) l G hR (tidy_of rfl rfl hT) hL hL4 hj ht ha) (fun h q => ?_)
      obtain ⟨A9, hR, hE⟩ := q
      refine wp_goto (pc := 47) (tgt := 73) dX11_hearRise_47 (by decide) ?_
      exact wp_vret (pc := 73) dX11_hearRise_73 rfl ⟨rfl, A9, by unfold risM; rw [g0]; simp only [if_pos c25]; exact hR, hE⟩
  · skip
    refine wp_aload_n (pc := 12) dX11_hearRise_12 rfl rfl ?_
    refine wp_aload_n (pc := 13) dX11_hearRise_13 rfl rfl ?_
    refine wc_VN (pc := 14) (μ2 := mX11_answerLate) (rc := 0) (rs := 0) [_] dX11_hearRise_14 rfl hR.bd rfl cv_X11_477_12 rfl ⟨(Nat.le_of_ble_eq_true rfl), (Nat.le_of_ble_eq_true rfl)⟩ (Nat.le_of_ble_eq_true rfl) (c_answerLate l G hR hT hL hL4 hj) (fun h q => ?_)
    obtain ⟨A9, hR, hE⟩ := q
    refine wp_goto (pc := 17) (tgt := 73) dX11_hearRise_17 (by decide) ?_
    exact wp_vret (pc := 73) dX11_hearRise_73 rfl ⟨rfl, A9, by unfold risM; rw [gMn_n c9]; exact hR, hE⟩
theorem c_waitOrRefuse {j t : Nat} (hR : RH G hp A M h) (hT : tidy M) (hL : M.1 35 = nI (nx (M.1 35))) (hL4 : nx (M.1 35) < 400) (hj : j < nx (M.1 35)) (ht : t < nx (M.1 11)) (hk : M.2.1 12 t = 4) (hTI : thI M t) : SpN l G mX11_waitOrRefuse [.ref (A.1 0 0), .ref (A.1 9 j), .ref (A.1 7 t)] h (fun h' => ∃ A', RH G hp A' (if qat M t (M.2.1 37 j) (nx (M.2.1 16 t)) = none then (if M.2.1 16 t = 8 then rfsM M j else sI (sI M 17 (8 * t + nx (M.2.1 16 t)) (M.2.1 37 j)) 16 t (M.2.1 16 t + 1)) else M) h' ∧ ext A M A') := by
  refine Sp.intro (lv := [_, _, _]) (by decide) rfl (Nat.le_of_ble_eq_true rfl) ?_
  refine wp_widen (rc' := 2) (rs' := 610) (Nat.le_refl _) (Nat.le_refl _) ?_
  refine wp_aload_n (pc := 0) dX11_waitOrRefuse_0 rfl rfl ?_
  refine wp_aload_n (pc := 1) dX11_waitOrRefuse_1 rfl rfl ?_
  refine wp_get (pc := 2) dX11_waitOrRefuse_2 fl_X11_224_3 (hR.lt hj) rfl ?_
  refine wc_VP (pc := 5) (μ2 := mX9_isQueued) (rc := 2) (rs := 610) [_] dX11_waitOrRefuse_5 rfl (hR.thW ht hk) rfl cv_X11_463_10 rfl ⟨(Nat.le_of_ble_eq_true rfl), (Nat.le_of_ble_eq_true rfl)⟩ (Nat.le_of_ble_eq_true rfl) (c_isQueued l G _ hR ht hk hTI) ?_
  refine wp_if_eq (pc := 8) (tgt := 12) dX11_waitOrRefuse_8 (by decide) (fun c8 => ?_) (fun c8 => ?_)
  · have d8 : qat M t (M.2.1 37 j) (nx (M.2.1 16 t)) = none := Decidable.byContradiction (fun z => by rw [if_neg z] at c8; exact absurd c8 (by decide))
    refine wp_aload_n (pc := 12) dX11_waitOrRefuse_12 rfl rfl ?_
    refine wc_VP (pc := 13) (μ2 := mX9_isQueueFull) (rc := 2) (rs := 610) [] dX11_waitOrRefuse_13 rfl (hR.thW ht hk) rfl cv_X11_466_10 rfl ⟨(Nat.le_of_ble_eq_true rfl), (Nat.le_of_ble_eq_true rfl)⟩ (Nat.le_of_ble_eq_true rfl) (c_isQueueFull l G hR ht hk hTI) ?_
    refine wp_ifB_eq (pc := 16) (tgt := 27) dX11_waitOrRefuse_16 (by decide) (fun c16 => ?_) (fun c16 => ?_)
    · have d16 := of_decide_eq_false c16
      have hq8 : nx (M.2.1 16 t) < 8 := eq8 hTI.2.2.2.1 (fun z => d16 (hTI.2.2.1.trans z))
      refine wp_aload_n (pc := 27) dX11_waitOrRefuse_27 rfl rfl ?_
      refine wp_aload_n (pc := 28) dX11_waitOrRefuse_28 rfl rfl ?_
      refine wp_get (pc := 29) dX11_waitOrRefuse_29 fl_X11_224_3 (hR.lt hj) rfl ?_
      refine wc_VN (pc := 32) (μ2 := mX9_join) (rc := 2) (rs := 610) [_] dX11_waitOrRefuse_32 rfl (hR.thW ht hk) rfl cv_X11_469_10 rfl ⟨(Nat.le_of_ble_eq_true rfl), (Nat.le_of_ble_eq_true rfl)⟩ (Nat.le_of_ble_eq_true rfl) (c_join l G _ hR ht hk hTI hq8) (fun h q => ?_)
      have hR := q
      exact wp_vret (pc := 35) dX11_waitOrRefuse_35 rfl ⟨rfl, A, by rw [if_pos d8, if_neg d16]; exact hR, ext.refl A M⟩
    · have d16 := of_decide_eq_true c16
      refine wp_aload_n (pc := 19) dX11_waitOrRefuse_19 rfl rfl ?_
      refine wp_aload_n (pc := 20) dX11_waitOrRefuse_20 rfl rfl ?_
      refine wc_VN (pc := 21) (μ2 := mX11_answerRefusal) (rc := 0) (rs := 0) [_] dX11_waitOrRefuse_21 rfl hR.bd rfl cv_X11_438_12 rfl ⟨(Nat.le_of_ble_eq_true rfl), (Nat.le_of_ble_eq_true rfl)⟩ (Nat.le_of_ble_eq_true rfl) (c_answerRefusal l G hR hT hL hL4 hj) (fun h q => ?_)
      obtain ⟨A9, hR, hE⟩ := q
      refine wp_goto (pc := 24) (tgt := 35) dX11_waitOrRefuse_24 (by decide) ?_
      exact wp_vret (pc := 35) dX11_waitOrRefuse_35 rfl ⟨rfl, A9, by rw [if_pos d8, if_pos d16]; exact hR, hE⟩
  · have d8 : ¬ qat M t (M.2.1 37 j) (nx (M.2.1 16 t)) = none := fun z => c8 (by rw [if_pos z])
    exact wp_vret (pc := 11) dX11_waitOrRefuse_11 rfl ⟨rfl, A, by rw [if_neg d8]; exact hR, ext.refl A M⟩
end K25
