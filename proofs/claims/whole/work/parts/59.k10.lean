/-! ===== the class: lead ===== -/
section K10
variable (l : Launch) (G : WG) {hp h : Hp} {A : AD} {M : MS}
theorem c_prolongBoard (hR : RH G hp A M h) (hb : bnd M) (hT : tidy M) (hTh : ∀ t, t < nx (M.1 11) → thI M t) (hCl : ∀ t, t < nx (M.1 11) → M.2.1 20 t = 0 ∨ M.2.1 20 t = 1) {k : Nat} (c : Int64) (hc : c = kClk M k) : SpN l G mX11_prolongBoard [.ref (A.1 0 0), .long c] h (fun h' => ∃ r, RH G hp (A.1, r) (ledM M k (nx (M.1 11))) h') := by
  refine Sp.intro (lv := [_, _, _, _, _, _]) (by decide) rfl (Nat.le_of_ble_eq_true rfl) ?_
  refine wp_widen (rc' := 0) (rs' := 0) (Nat.le_refl _) (Nat.le_refl _) ?_
  have hb9 := hb
  unfold bnd at hb9
  generalize hQ0 : (fun (w : Option Value) (h' : Hp) => w = none ∧ ∃ r, RH G hp (A.1, r) (ledM M k (nx (M.1 11))) h') = Q0
  have loop : ∀ i, i ≤ nx (M.1 11) → ∀ (h : Hp) (r : (Nat → Nat) × (Nat → Int32) × (Nat → Int64)), RH G hp (A.1, r) (ledM M k i) h → wp l G mX11_prolongBoard (zM G mX11_prolongBoard Q0) 2 [some (.ref (A.1 0 0)), some (.long c), none, some (.int (nI i)), none, none] [] h 0 0 := by
    refine loopU _ (nx (M.1 11)) (fun i hi ih => ?_) ?_
    · intro h r hR
      obtain ⟨s1, s2⟩ := ledM_1 M k i
      have hT : tidy (ledM M k i) := tidy_of s1 s2 hT
      have hi2 : i < nx ((ledM M k i).1 11) := by rw [s1]; exact hi
      refine wp_iload_n (pc := 2) dX11_prolongBoard_2 rfl rfl ?_
      refine wp_aload_n (pc := 3) dX11_prolongBoard_3 rfl rfl ?_
      refine wp_get (pc := 4) dX11_prolongBoard_4 fl_X11_19_12 hR.bd rfl ?_
      refine wc_VP (pc := 7) (μ2 := mJx4a65c_size_8abf5) (rc := 0) (rs := 0) [] dX11_prolongBoard_7 rfl (hR.lst (ll := 2) (by omega)) rfl cv_X11_87_0 rfl ⟨(Nat.le_of_ble_eq_true rfl), (Nat.le_of_ble_eq_true rfl)⟩ (Nat.le_of_ble_eq_true rfl) (show SpP l G mJx4a65c_size_8abf5 [_] _ (.int (nI (nx ((ledM M k i).1 11)))) from j_size l G _ (hR.lst (ll := 2) (by omega))) ?_
      refine wp_icmp_ge (pc := 10) (tgt := 67) dX11_prolongBoard_10 (by decide) (fun z => absurd z (by rw [s1]; exact nI_ge hi (by omega))) (fun _ => ?_)
      refine wp_aload_n (pc := 13) dX11_prolongBoard_13 rfl rfl ?_
      refine wp_get (pc := 14) dX11_prolongBoard_14 fl_X11_19_12 hR.bd rfl ?_
      refine wp_iload_n (pc := 17) dX11_prolongBoard_17 rfl rfl ?_
      refine wc_VP (pc := 18) (μ2 := mJx4a65c_get_915e3) (rc := 0) (rs := 0) [_] dX11_prolongBoard_18 rfl (hR.lst (ll := 2) (by omega)) rfl cv_X11_383_0 rfl ⟨(Nat.le_of_ble_eq_true rfl), (Nat.le_of_ble_eq_true rfl)⟩ (Nat.le_of_ble_eq_true rfl) (j_get l G _ (hR.lst (ll := 2) (by omega)) (hR.dat (by omega)) hi2 (hR.cap (by omega)).1 (hR.cap (by omega)).2) ?_
      refine wp_castT (pc := 21) dX11_prolongBoard_21 (hR.th hi2) cT_X11_161 ?_
      refine wp_astore (pc := 24) (lv' := [_, _, _, _, _, _]) dX11_prolongBoard_24 (Nat.le_of_ble_eq_true rfl) rfl rfl ?_
      refine wp_aload (pc := 26) dX11_prolongBoard_26 rfl ?_
      refine wp_lload_n (pc := 28) dX11_prolongBoard_28 rfl rfl ?_
      refine wc_TN (pc := 29) (μ2 := mX4_prolongAll) (rc := 0) (rs := 0) [_] dX11_prolongBoard_29 rfl (hR.th hi2) ct_X11_399 rfl ⟨(Nat.le_of_ble_eq_true rfl), (Nat.le_of_ble_eq_true rfl)⟩ (Nat.le_of_ble_eq_true rfl) (c_prolongAll l G hR hT hi2 c) (fun h q => ?_)
      have hR := q
      have hc2 : c = kClk (ledM M k i) k := by rw [hc]; exact (kClk_c s1 s2 k).symm
      have hS : ledM M k (i + 1) = sL (ledE (ledM M k i) i (c + (lng (ledM M k i) i).toInt64) (nx ((ledM M k i).2.1 21 i))) 19 i (c + (lng (ledM M k i) i).toInt64) := by
        rw [hc2, s2]; rfl
      obtain ⟨u1, u2⟩ := ledE_1 (ledM M k i) i (c + (lng (ledM M k i) i).toInt64) (nx ((ledM M k i).2.1 21 i))
      have hi3 : i < nx ((ledE (ledM M k i) i (c + (lng (ledM M k i) i).toInt64) (nx ((ledM M k i).2.1 21 i))).1 11) := by rw [u1]; exact hi2
      refine wp_aload (pc := 32) dX11_prolongBoard_32 rfl ?_
      refine wp_instT 4 (pc := 34) dX11_prolongBoard_34 (hR.th hi3) it_X11_285 (fun c34 => ?_) (fun c34 => ?_)
      · skip
        refine wp_if_eq (pc := 37) (tgt := 61) dX11_prolongBoard_37 (by decide) (fun z => absurd z (by decide)) (fun _ => ?_)
        refine wp_aload (pc := 40) dX11_prolongBoard_40 rfl ?_
        refine wp_cast (pc := 42) dX11_prolongBoard_42 (hR.thW hi3 c34) ca_X11_285_10 ?_
        refine wp_astore (pc := 45) (lv' := [_, _, _, _, _, _]) dX11_prolongBoard_45 (Nat.le_of_ble_eq_true rfl) rfl rfl ?_
        refine wp_aload (pc := 47) dX11_prolongBoard_47 rfl ?_
        refine wp_get (pc := 49) dX11_prolongBoard_49 fl_X11_290_10 (hR.thW hi3 c34) rfl ?_
        refine wp_if_eq (pc := 52) (tgt := 61) dX11_prolongBoard_52 (by decide) (fun c52 => ?_) (fun c52 => ?_)
        · skip
          refine wp_iinc (pc := 61) (v := _ + 1) (lv' := [_, _, _, _, _, _]) dX11_prolongBoard_61 rfl rfl rfl rfl ?_
          refine wp_goto (pc := 64) (tgt := 2) dX11_prolongBoard_64 (by decide) ?_
          refine wp_drop (ih h r ?_) (by simp [lvle, nI_1])
          rw [hS]
          exact RH.c19 hR hi3 (c52) _
        · skip
          refine wp_aload (pc := 55) dX11_prolongBoard_55 rfl ?_
          refine wp_lload_n (pc := 57) dX11_prolongBoard_57 rfl rfl ?_
          refine wc_VN (pc := 58) (μ2 := mX9_callFirst) (rc := 0) (rs := 0) [_] dX11_prolongBoard_58 rfl (hR.thW hi3 c34) rfl cv_X11_402_10 rfl ⟨(Nat.le_of_ble_eq_true rfl), (Nat.le_of_ble_eq_true rfl)⟩ (Nat.le_of_ble_eq_true rfl) (c_callFirst l G hR hi3 c34 c) (fun h q => ?_)
          have hR := q
          refine wp_iinc (pc := 61) (v := _ + 1) (lv' := [_, _, _, _, _, _]) dX11_prolongBoard_61 rfl rfl rfl rfl ?_
          refine wp_goto (pc := 64) (tgt := 2) dX11_prolongBoard_64 (by decide) ?_
          have hS3 : ledM M k (i + 1) = sL (sI (ledE (ledM M k i) i (c + (lng (ledM M k i) i).toInt64) (nx ((ledM M k i).2.1 21 i))) 20 i 1) 19 i (c + (lng (ledE (ledM M k i) i (c + (lng (ledM M k i) i).toInt64) (nx ((ledM M k i).2.1 21 i))) i).toInt64) := by
            rw [hS, sI_self (M := (ledE (ledM M k i) i (c + (lng (ledM M k i) i).toInt64) (nx ((ledM M k i).2.1 21 i)))) (k := 20) (j := i) (v := 1) (by rw [u2, s2]; exact (hCl i hi).resolve_left (by rw [u2, s2] at c52; exact c52)), lng_c u1 u2 i]
          exact wp_drop (ih h (r.1, r.2.1, fu r.2.2 i (c + (lng (ledE (ledM M k i) i (c + (lng (ledM M k i) i).toInt64) (nx ((ledM M k i).2.1 21 i))) i).toInt64)) (by rw [hS3]; exact hR)) (by simp [lvle, nI_1])
      · skip
        refine wp_if_eq (pc := 37) (tgt := 61) dX11_prolongBoard_37 (by decide) (fun _ => ?_) (fun z => absurd (by decide) z)
        refine wp_iinc (pc := 61) (v := _ + 1) (lv' := [_, _, _, _, _, _]) dX11_prolongBoard_61 rfl rfl rfl rfl ?_
        refine wp_goto (pc := 64) (tgt := 2) dX11_prolongBoard_64 (by decide) ?_
        refine wp_drop (ih h r ?_) (by simp [lvle, nI_1])
        rw [hS]
        exact RH.c19 hR hi3 (by rw [u2, s2]; exact ((hTh i hi).2.2.2.2.2.1 (by rw [u2, s2] at c34; exact c34)).2) _
    · intro h r hR
      obtain ⟨s1, s2⟩ := ledM_1 M k (nx (M.1 11))
      have hT : tidy (ledM M k (nx (M.1 11))) := tidy_of s1 s2 hT
      refine wp_iload_n (pc := 2) dX11_prolongBoard_2 rfl rfl ?_
      refine wp_aload_n (pc := 3) dX11_prolongBoard_3 rfl rfl ?_
      refine wp_get (pc := 4) dX11_prolongBoard_4 fl_X11_19_12 hR.bd rfl ?_
      refine wc_VP (pc := 7) (μ2 := mJx4a65c_size_8abf5) (rc := 0) (rs := 0) [] dX11_prolongBoard_7 rfl (hR.lst (ll := 2) (by omega)) rfl cv_X11_87_0 rfl ⟨(Nat.le_of_ble_eq_true rfl), (Nat.le_of_ble_eq_true rfl)⟩ (Nat.le_of_ble_eq_true rfl) (show SpP l G mJx4a65c_size_8abf5 [_] _ (.int (nI (nx ((ledM M k (nx (M.1 11))).1 11)))) from j_size l G _ (hR.lst (ll := 2) (by omega))) ?_
      refine wp_icmp_ge (pc := 10) (tgt := 67) dX11_prolongBoard_10 (by decide) (fun _ => ?_) (fun z => absurd (by rw [s1]; exact nI_le (Nat.le_refl _) (by omega)) z)
      exact wp_vret (pc := 67) dX11_prolongBoard_67 rfl (by rw [← hQ0]; exact ⟨rfl, _, hR⟩)
  refine wp_iconst (pc := 0) (v := 0) dX11_prolongBoard_0 (by decide) ?_
  refine wp_istore_n (pc := 1) (lv' := [_, _, _, _, _, _]) dX11_prolongBoard_1 rfl (Nat.le_of_ble_eq_true rfl) rfl rfl ?_
  exact wp_drop (loop 0 (Nat.zero_le _) h A.2 hR) (by simp [lvle, nI_0])
theorem tidy_S {M M' : MS} (hT : tidy M) (h11 : M'.1 11 = M.1 11) (h35 : M'.1 35 = M.1 35) (h2 : M'.2.1 = M.2.1 := by rfl) : tidy M' := by unfold tidy at *; rw [h11, h35, h2]; exact hT
theorem k_lead (v : Int32) (hR : RH G hp A M h) (hb : bnd M) (hK : M.1 2 = nI (nx (M.1 2))) (hT : tidy M) (hTh : ∀ t, t < nx (M.1 11) → thI M t) (hCl : ∀ t, t < nx (M.1 11) → M.2.1 20 t = 0 ∨ M.2.1 20 t = 1) : KS l G hp A mX11_lead [.int v] M h (.int (f_lead M v).1) ((f_lead M v).2) := by
  refine Sp.intro (lv := [_, _, _]) (by decide) rfl (Nat.le_of_ble_eq_true rfl) ?_
  refine wp_widen (rc' := 0) (rs' := 0) (Nat.le_refl _) (Nat.le_refl _) ?_
  have hb9 := hb
  unfold bnd at hb9
  refine wp_aload_n (pc := 0) dX11_lead_0 rfl rfl ?_
  refine wp_iload_n (pc := 1) dX11_lead_1 rfl rfl ?_
  refine wc_VP (pc := 2) (μ2 := mX11_keeperAt) (rc := 0) (rs := 0) [_] dX11_lead_2 rfl hR.bd rfl cv_X11_144_12 rfl ⟨(Nat.le_of_ble_eq_true rfl), (Nat.le_of_ble_eq_true rfl)⟩ (Nat.le_of_ble_eq_true rfl) (c_keeperAt l G _ hR hb) ?_
  refine wp_astore_nQ (pc := 5) (lv' := [_, _, _]) dX11_lead_5 rfl (Nat.le_of_ble_eq_true rfl) rfl rfl ?_
  refine wp_aload_nQ (pc := 6) dX11_lead_6 rfl rfl ?_
  refine wp_ifnonnull (pc := 7) (tgt := 13) dX11_lead_7 (by decide) (fun a7 c7 => ?_) (fun c7 => ?_)
  · obtain ⟨j, hj, rfl, rfl⟩ := oAt_s c7 (by omega)
    rw [oAt_t hj (by omega)]
    have i1 := isIx_nI hj (show nx (M.1 2) < 2 ^ 31 by omega)
    have e1 : nx (nI j) = j := nx_nI (by omega)
    refine wp_aload_n (pc := 13) dX11_lead_13 rfl rfl ?_
    refine wp_get (pc := 14) dX11_lead_14 fl_X11_123_6 (hR.kp hj) rfl ?_
    refine wp_if_eq (pc := 17) (tgt := 27) dX11_lead_17 (by decide) (fun c17 => ?_) (fun c17 => ?_)
    · skip
      refine wp_bipush (pc := 27) (v := (-3)) dX11_lead_27 (by decide) ?_
      exact wp_iret (pc := 29) dX11_lead_29 rfl ⟨_, rfl, by simp only [f_lead, i1, e1, eq_true c17, if_true, if_false, Bool.true_eq_false, Bool.false_eq_true, reduceIte, reduceCtorEq, Bool.not_true, Bool.not_false, true_and, and_true, and_false, false_and, or_true, true_or, or_false, false_or, not_true_eq_false, not_false_eq_true], A, by simp only [f_lead, i1, e1, eq_true c17, if_true, if_false, Bool.true_eq_false, Bool.false_eq_true, reduceIte, reduceCtorEq, Bool.not_true, Bool.not_false, true_and, and_true, and_false, false_and, or_true, true_or, or_false, false_or, not_true_eq_false, not_false_eq_true] <;> exact hR, ext.refl A M⟩
    · skip
      refine wp_aload_n (pc := 20) dX11_lead_20 rfl rfl ?_
      refine wc_VP (pc := 21) (μ2 := mX11_areMostAwake) (rc := 0) (rs := 0) [] dX11_lead_21 rfl hR.bd rfl cv_X11_148_12 rfl ⟨(Nat.le_of_ble_eq_true rfl), (Nat.le_of_ble_eq_true rfl)⟩ (Nat.le_of_ble_eq_true rfl) (c_areMostAwake l G hR hb hK) ?_
      refine wp_ifB_ne (pc := 24) (tgt := 30) dX11_lead_24 (by decide) (fun c24 => ?_) (fun c24 => ?_)
      · skip
        refine wp_aload_n (pc := 30) dX11_lead_30 rfl rfl ?_
        refine wp_dup (pc := 31) dX11_lead_31 rfl ?_
        refine wp_get (pc := 32) dX11_lead_32 fl_X11_49_12 hR.bd rfl ?_
        refine wp_iconst (pc := 35) (v := 1) dX11_lead_35 (by decide) ?_
        refine wp_iadd (pc := 36) dX11_lead_36 ?_
        refine wp_putC (pc := 37) dX11_lead_37 fl_X11_49_12 hR.bd (Or.inl rfl) (Nat.le_of_ble_eq_true rfl) rfl rfl rfl (fun h hq1 hq2 => ?_)
        have hR := hR.k0 (M' := sS (M) 28 ((M).1 28 + 1)) rfl rfl rfl rfl rfl rfl hq1 hq2
        refine wp_aload_n (pc := 40) dX11_lead_40 rfl rfl ?_
        refine wp_iload_n (pc := 41) dX11_lead_41 rfl rfl ?_
        refine wp_putC (pc := 42) dX11_lead_42 fl_X11_46_12 hR.bd (Or.inl rfl) (Nat.le_of_ble_eq_true rfl) rfl rfl rfl (fun h hq1 hq2 => ?_)
        have hR := hR.k0 (M' := sS (sS (M) 28 ((M).1 28 + 1)) 27 (nI j)) rfl rfl rfl rfl rfl rfl hq1 hq2
        refine wp_aload_n (pc := 45) dX11_lead_45 rfl rfl ?_
        refine wp_aload_n (pc := 46) dX11_lead_46 rfl rfl ?_
        refine wp_aload_n (pc := 47) dX11_lead_47 rfl rfl ?_
        refine wp_get (pc := 48) dX11_lead_48 fl_X11_43_12 hR.bd rfl ?_
        refine wc_VP (pc := 51) (μ2 := mX5_shows) (rc := 0) (rs := 0) [_] dX11_lead_51 rfl (hR.kp hj) rfl cv_X11_119_6 rfl ⟨(Nat.le_of_ble_eq_true rfl), (Nat.le_of_ble_eq_true rfl)⟩ (Nat.le_of_ble_eq_true rfl) (c_shows6 l G _ (hR.kp hj)) ?_
        refine wc_VN (pc := 54) (μ2 := mX11_prolongBoard) (rc := 0) (rs := 0) [_] dX11_lead_54 rfl hR.bd rfl cv_X11_152_12 rfl ⟨(Nat.le_of_ble_eq_true rfl), (Nat.le_of_ble_eq_true rfl)⟩ (Nat.le_of_ble_eq_true rfl) (c_prolongBoard (k := j) l G hR (bnd_of rfl rfl rfl rfl rfl hb) (tidy_S hT rfl rfl) (by exact hTh) (by exact hCl) _ rfl) (fun h q => ?_)
        obtain ⟨r, hR⟩ := q
        have hf : f_lead M (nI j) = (M.1 28 + 1, ledM (sS (sS M 28 (M.1 28 + 1)) 27 (nI j)) j (nx (M.1 11))) := by
          unfold f_lead
          rw [if_neg (by rw [i1]; decide), e1, if_neg c17, if_neg (by rw [c24]; decide), sS_comm _ _ _ (by decide)]
        refine wp_aload_n (pc := 57) dX11_lead_57 rfl rfl ?_
        refine wp_get (pc := 58) dX11_lead_58 fl_X11_49_12 hR.bd rfl ?_
        exact wp_iret (pc := 61) dX11_lead_61 rfl ⟨_, rfl, by rw [hf]; exact congrArg Value.int (congrFun (ledM_1 (sS (sS M 28 (M.1 28 + 1)) 27 (nI j)) j (nx (M.1 11))).1 28), (A.1, r), by rw [hf]; exact hR, fun _ _ _ _ _ => rfl⟩
      · skip
        refine wp_bipush (pc := 27) (v := (-3)) dX11_lead_27 (by decide) ?_
        exact wp_iret (pc := 29) dX11_lead_29 rfl ⟨_, rfl, by simp only [f_lead, i1, e1, eq_false c17, c24, if_true, if_false, Bool.true_eq_false, Bool.false_eq_true, reduceIte, reduceCtorEq, Bool.not_true, Bool.not_false, true_and, and_true, and_false, false_and, or_true, true_or, or_false, false_or, not_true_eq_false, not_false_eq_true], A, by simp only [f_lead, i1, e1, eq_false c17, c24, if_true, if_false, Bool.true_eq_false, Bool.false_eq_true, reduceIte, reduceCtorEq, Bool.not_true, Bool.not_false, true_and, and_true, and_false, false_and, or_true, true_or, or_false, false_or, not_true_eq_false, not_false_eq_true] <;> exact hR, ext.refl A M⟩
  · skip
    refine wp_bipush (pc := 10) (v := (-2)) dX11_lead_10 (by decide) ?_
    exact wp_iret (pc := 12) dX11_lead_12 rfl ⟨_, rfl, by unfold f_lead; rw [if_pos (oAt_n c7)], A, by unfold f_lead; rw [if_pos (oAt_n c7)]; exact hR, ext.refl A M⟩
end K10
