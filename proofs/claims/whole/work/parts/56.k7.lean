/-! ===== the class: told, counts ===== -/
theorem isIx_of {v : Int32} {n : Nat} (h0 : ¬ v < 0) (h1 : ¬ nI n ≤ v) (hn : n < 2 ^ 31) : isIx v n = true := by
  obtain ⟨j, hj, rfl⟩ := nI_of h0
  refine isIx_nI ?_ hn
  rcases Nat.lt_or_ge j n with z | z
  · exact z
  · exact absurd (nI_le z hj) h1
theorem isIx_f1 {v : Int32} {n : Nat} (h : v < 0) (hn : n < 2 ^ 31) : isIx v n = false := by
  cases hz : isIx v n with
  | false => rfl
  | true => obtain ⟨j, hj, rfl⟩ := isIx_t hz hn; exact absurd h (nI_pos (by omega))
theorem isIx_f2 {v : Int32} {n : Nat} (h : nI n ≤ v) (hn : n < 2 ^ 31) : isIx v n = false := by
  cases hz : isIx v n with
  | false => rfl
  | true => obtain ⟨j, hj, rfl⟩ := isIx_t hz hn; exact absurd h (nI_ge hj hn)
theorem told9 {v : Int32} {q : Nat} (hq : q ≤ 8) (h0 : 0 ≤ v) (h : v < 0 ∨ 8 < v) (f : Nat → Int32) : (if isIx (v - 9) q = true then f (nx (v - 9)) else -1) = if nI q ≤ v - 9 then -1 else f (nx v - 9) := by
  obtain ⟨n, hn, h9, hv, hv9⟩ := ge9 h0 h
  have e1 : nx v = n := by rw [hv]; exact nx_nI hn
  have e2 : nx (nI (n - 9)) = n - 9 := nx_nI (by omega)
  rw [hv9, e1, e2]
  by_cases hc : n - 9 < q
  · rw [if_pos (isIx_nI hc (by omega)), if_neg (nI_ge hc (by omega))]
  · rw [if_neg (by rw [isIx_f2 (nI_le (by omega) (by omega)) (by omega)]; decide), if_pos (nI_le (by omega) (by omega))]
def clC (M : MS) (t : Nat) : Nat → Int32
  | 0 => 0
  | w + 1 => if mayB M w t = false then clC M t w else clC M t w + (if M.2.1 30 (20 * w + t) = 0 then 1 else 0)
theorem clC_n (M : MS) (t : Nat) : ∀ n, ∃ c, c ≤ n ∧ clC M t n = nI c ∧ (c = 0 ↔ clW M t n = false)
  | 0 => ⟨0, Nat.le_refl _, rfl, by simp [clW]⟩
  | n + 1 => by
    obtain ⟨c, h1, h2, h3⟩ := clC_n M t n
    unfold clC clW
    cases hm : mayB M n t with
    | false => exact ⟨c, by omega, by simpa using h2, by simpa using h3⟩
    | true =>
      by_cases hz : M.2.1 30 (20 * n + t) = 0
      · refine ⟨c + 1, by omega, ?_, ?_⟩
        · simp [hz, h2, nI_1]
        · cases hw : clW M t n <;> simp [hz]
      · refine ⟨c, by omega, ?_, ?_⟩
        · simp [hz, h2]
        · cases hw : clW M t n <;> simp [hz, h3, hw]
theorem clC_w (M : MS) (t : Nat) {n : Nat} (hn : n ≤ 20) : clC M t n ≤ 0 ↔ clW M t n = false := by
  obtain ⟨c, h1, h2, h3⟩ := clC_n M t n
  rw [h2, ← h3, show (0 : Int32) = nI 0 from rfl, nI_leI (by omega) (by decide)]
  omega
/-- the counts are numbers -/
def cnts (M : MS) : Prop := M.1 2 = nI (nx (M.1 2)) ∧ M.1 6 = nI (nx (M.1 6)) ∧ M.1 11 = nI (nx (M.1 11)) ∧ M.1 35 = nI (nx (M.1 35)) ∧ M.1 46 = nI (nx (M.1 46))
section K7
variable (l : Launch) (G : WG) {hp h : Hp} {A : AD} {M : MS}
theorem c_queuedAt (hR : RH G hp A M h) {t : Nat} (ht : t < nx (M.1 11)) (hk : M.2.1 12 t = 4) (hTI : thI M t) (p : Int32) : SpP l G mX9_queuedAt [.ref (A.1 7 t), .int p] h (.int (if isIx p (nx (M.2.1 16 t)) = true then M.2.1 17 (8 * t + nx p) else -1)) := by
  refine Sp.intro (lv := [_, _]) (by decide) rfl (Nat.le_of_ble_eq_true rfl) ?_
  refine wp_widen (rc' := 0) (rs' := 0) (Nat.le_refl _) (Nat.le_refl _) ?_
  obtain ⟨g1, g2, q1, q2, q3, q4, q5, q6⟩ := hTI
  refine wp_iload_n (pc := 0) dX9_queuedAt_0 rfl rfl ?_
  refine wp_if_lt (pc := 1) (tgt := 21) dX9_queuedAt_1 (by decide) (fun c1 => ?_) (fun c1 => ?_)
  · skip
    refine wp_iconst (pc := 21) (v := (-1)) dX9_queuedAt_21 (by decide) ?_
    refine wp_goto (pc := 22) (tgt := 31) dX9_queuedAt_22 (by decide) ?_
    exact wp_iret (pc := 31) dX9_queuedAt_31 rfl ⟨by rw [if_neg (by rw [isIx_f1 c1 (by omega)]; decide)], rfl⟩
  · skip
    refine wp_iload_n (pc := 4) dX9_queuedAt_4 rfl rfl ?_
    refine wp_aload_n (pc := 5) dX9_queuedAt_5 rfl rfl ?_
    refine wp_get (pc := 6) dX9_queuedAt_6 fl_X9_15_10 (hR.thW ht hk) rfl ?_
    refine wp_icmp_ge (pc := 9) (tgt := 21) dX9_queuedAt_9 (by decide) (fun c9 => ?_) (fun c9 => ?_)
    · skip
      refine wp_iconst (pc := 21) (v := (-1)) dX9_queuedAt_21 (by decide) ?_
      refine wp_goto (pc := 22) (tgt := 31) dX9_queuedAt_22 (by decide) ?_
      exact wp_iret (pc := 31) dX9_queuedAt_31 rfl ⟨by rw [if_neg (by rw [isIx_f2 (by rw [← q1]; exact c9) (by omega)]; decide)], rfl⟩
    · rw [q1] at c9
      have hx := isIx_of c1 c9 (by omega)
      obtain ⟨m, hm, rfl⟩ := isIx_t hx (by omega)
      refine wp_iload_n (pc := 12) dX9_queuedAt_12 rfl rfl ?_
      refine wp_aload_n (pc := 13) dX9_queuedAt_13 rfl rfl ?_
      refine wp_get (pc := 14) dX9_queuedAt_14 fl_X9_9_10 (hR.thW ht hk) rfl ?_
      refine wp_alen (k := 0) (pc := 17) (by decide) dX9_queuedAt_17 (hR.qu (i := t) ⟨ht, hk⟩) ?_
      refine wp_icmp_lt (pc := 18) (tgt := 25) dX9_queuedAt_18 (by decide) (fun _ => ?_) (fun z => absurd (nI_lt (b := 8) (by omega) (by decide)) z)
      refine wp_aload_n (pc := 25) dX9_queuedAt_25 rfl rfl ?_
      refine wp_get (pc := 26) dX9_queuedAt_26 fl_X9_9_10 (hR.thW ht hk) rfl ?_
      refine wp_iload_n (pc := 29) dX9_queuedAt_29 rfl rfl ?_
      refine wp_iald (pc := 30) (i := m) dX9_queuedAt_30 (hR.qu (i := t) ⟨ht, hk⟩) ⟨rfl, by omega, by decide⟩ ?_
      rw [if_pos (show m < 8 by omega)]
      exact wp_iret (pc := 31) dX9_queuedAt_31 rfl ⟨by rw [if_pos hx, nx_nI (show m < 2 ^ 31 by omega)], rfl⟩
theorem told_le {v : Int32} (h0 : 0 ≤ v) (h : v < 0 ∨ 8 < v) : 0 ≤ v - 9 := by
  obtain ⟨n, hn, h9, hv, hv9⟩ := ge9 h0 h
  rw [hv9]
  exact nI_pos' (by omega)
theorem k_told (v what : Int32) (hR : RH G hp A M h) (hb : bnd M) (hTh : ∀ t, t < nx (M.1 11) → thI M t) : SpP l G mX11_told [.ref (A.1 0 0), .int v, .int what] h (.int (f_told M v what)) := by
  refine Sp.intro (lv := [_, _, _, _, _]) (by decide) rfl (Nat.le_of_ble_eq_true rfl) ?_
  refine wp_widen (rc' := 0) (rs' := 0) (Nat.le_refl _) (Nat.le_refl _) ?_
  have hb9 := hb
  unfold bnd at hb9
  refine wp_aload_n (pc := 0) dX11_told_0 rfl rfl ?_
  refine wp_iload_n (pc := 1) dX11_told_1 rfl rfl ?_
  refine wc_VP (pc := 2) (μ2 := mX11_thingAt) (rc := 0) (rs := 0) [_] dX11_told_2 rfl hR.bd rfl cv_X11_156_12 rfl ⟨(Nat.le_of_ble_eq_true rfl), (Nat.le_of_ble_eq_true rfl)⟩ (Nat.le_of_ble_eq_true rfl) (c_thingAt l G _ hR hb) ?_
  refine wp_astore_nQ (pc := 5) (lv' := [_, _, _, _, _]) dX11_told_5 rfl (Nat.le_of_ble_eq_true rfl) rfl rfl ?_
  refine wp_aload_nQ (pc := 6) dX11_told_6 rfl rfl ?_
  refine wp_ifnull (pc := 7) (tgt := 14) dX11_told_7 (by decide) (fun c7 => ?_) (fun a7 c7 => ?_)
  · skip
    refine wp_bipush (pc := 14) (v := (-2)) dX11_told_14 (by decide) ?_
    exact wp_iret (pc := 16) dX11_told_16 rfl ⟨by unfold f_told; rw [if_pos (oAt_n c7)], rfl⟩
  · obtain ⟨j, hj, rfl, rfl⟩ := oAt_s c7 (by omega)
    rw [oAt_t hj (by omega)]
    have i1 := isIx_nI hj (show nx (M.1 11) < 2 ^ 31 by omega)
    have e1 : nx (nI j) = j := nx_nI (by omega)
    have hTI := hTh j hj
    have hTI0 := hTI
    obtain ⟨g1, g2, q1, q2, q3, q4, q5, q6⟩ := hTI
    refine wp_iload_n (pc := 10) dX11_told_10 rfl rfl ?_
    refine wp_if_ge (pc := 11) (tgt := 17) dX11_told_11 (by decide) (fun c11 => ?_) (fun c11 => ?_)
    · skip
      refine wp_iload_n (pc := 17) dX11_told_17 rfl rfl ?_
      refine wp_tsw_0_8 (pc := 18) dX11_told_18 (t0 := 68) (t1 := 73) (t2 := 78) (t3 := 83) (t4 := 106) (t5 := 114) (t6 := 137) (t7 := 160) (t8 := 187) (td := 193) (by decide) (by decide) (by decide) (by decide) (by decide) (by decide) (by decide) (by decide) (by decide) (by decide) (fun c18 => ?_) (fun c18 => ?_) (fun c18 => ?_) (fun c18 => ?_) (fun c18 => ?_) (fun c18 => ?_) (fun c18 => ?_) (fun c18 => ?_) (fun c18 => ?_) (fun c18 => ?_)
      · skip
        refine wp_aload_n (pc := 68) dX11_told_68 rfl rfl ?_
        refine wp_getT (pc := 69) dX11_told_69 ft_X11_270 (hR.th hj) rfl ?_
        exact wp_iret (pc := 72) dX11_told_72 rfl ⟨by subst c18; simp only [f_told, i1, e1, if_true, if_false, Bool.true_eq_false, Bool.false_eq_true, reduceIte, reduceCtorEq, Bool.not_true, Bool.not_false, true_and, and_true, and_false, false_and, or_true, true_or, or_false, false_or, not_true_eq_false, not_false_eq_true] <;> rfl, rfl⟩
      · skip
        refine wp_aload_n (pc := 73) dX11_told_73 rfl rfl ?_
        refine wp_getT (pc := 74) dX11_told_74 ft_X11_271 (hR.th hj) rfl ?_
        exact wp_iret (pc := 77) dX11_told_77 rfl ⟨by subst c18; simp only [f_told, i1, e1, if_true, if_false, Bool.true_eq_false, Bool.false_eq_true, reduceIte, reduceCtorEq, Bool.not_true, Bool.not_false, true_and, and_true, and_false, false_and, or_true, true_or, or_false, false_or, not_true_eq_false, not_false_eq_true] <;> rfl, rfl⟩
      · skip
        refine wp_aload_n (pc := 78) dX11_told_78 rfl rfl ?_
        refine wp_getT (pc := 79) dX11_told_79 ft_X11_274 (hR.th hj) rfl ?_
        exact wp_iret (pc := 82) dX11_told_82 rfl ⟨by subst c18; simp only [f_told, i1, e1, if_true, if_false, Bool.true_eq_false, Bool.false_eq_true, reduceIte, reduceCtorEq, Bool.not_true, Bool.not_false, true_and, and_true, and_false, false_and, or_true, true_or, or_false, false_or, not_true_eq_false, not_false_eq_true] <;> rfl, rfl⟩
      · skip
        refine wp_aload_n (pc := 83) dX11_told_83 rfl rfl ?_
        refine wp_instT 2 (pc := 84) dX11_told_84 (hR.th hj) it_X11_277 (fun c84 => ?_) (fun c84 => ?_)
        · skip
          refine wp_if_eq (pc := 87) (tgt := 104) dX11_told_87 (by decide) (fun z => absurd z (by decide)) (fun _ => ?_)
          refine wp_aload_n (pc := 90) dX11_told_90 rfl rfl ?_
          refine wp_cast (pc := 91) dX11_told_91 (hR.thC hj c84) ca_X11_277_1 ?_
          refine wp_astore (pc := 94) (lv' := [_, _, _, _, _]) dX11_told_94 (Nat.le_of_ble_eq_true rfl) rfl rfl ?_
          refine wp_aload (pc := 96) dX11_told_96 rfl ?_
          refine wp_get (pc := 98) dX11_told_98 fl_X11_279_1 (hR.thC hj c84) rfl ?_
          refine wp_goto (pc := 101) (tgt := 105) dX11_told_101 (by decide) ?_
          exact wp_iret (pc := 105) dX11_told_105 rfl ⟨by subst c18; simp only [f_told, i1, e1, if_true, if_false, Bool.true_eq_false, Bool.false_eq_true, reduceIte, reduceCtorEq, Bool.not_true, Bool.not_false, true_and, and_true, and_false, false_and, or_true, true_or, or_false, false_or, not_true_eq_false, not_false_eq_true] <;> rfl, rfl⟩
        · skip
          refine wp_if_eq (pc := 87) (tgt := 104) dX11_told_87 (by decide) (fun _ => ?_) (fun z => absurd (by decide) z)
          refine wp_iconst (pc := 104) (v := 0) dX11_told_104 (by decide) ?_
          exact wp_iret (pc := 105) dX11_told_105 rfl ⟨by subst c18; simp only [f_told, i1, e1, q6 c84, if_true, if_false, Bool.true_eq_false, Bool.false_eq_true, reduceIte, reduceCtorEq, Bool.not_true, Bool.not_false, true_and, and_true, and_false, false_and, or_true, true_or, or_false, false_or, not_true_eq_false, not_false_eq_true] <;> rfl, rfl⟩
      · skip
        refine wp_aload_n (pc := 106) dX11_told_106 rfl rfl ?_
        refine wp_getT (pc := 107) dX11_told_107 ft_X11_254 (hR.th hj) rfl ?_
        refine wc_VP (pc := 110) (μ2 := mJx4a65c_size_8abf5) (rc := 0) (rs := 0) [] dX11_told_110 rfl (hR.lst (ll := j + 4) (by omega)) rfl cv_X11_87_0 rfl ⟨(Nat.le_of_ble_eq_true rfl), (Nat.le_of_ble_eq_true rfl)⟩ (Nat.le_of_ble_eq_true rfl) (show SpP l G mJx4a65c_size_8abf5 [_] _ (.int (nI (nx (M.2.1 21 j)))) from j_size l G _ (hR.lst (ll := j + 4) (by omega))) ?_
        exact wp_iret (pc := 113) dX11_told_113 rfl ⟨by subst c18; simp only [f_told, i1, e1, ← g1, if_true, if_false, Bool.true_eq_false, Bool.false_eq_true, reduceIte, reduceCtorEq, Bool.not_true, Bool.not_false, true_and, and_true, and_false, false_and, or_true, true_or, or_false, false_or, not_true_eq_false, not_false_eq_true] <;> rfl, rfl⟩
      · skip
        refine wp_aload_n (pc := 114) dX11_told_114 rfl rfl ?_
        refine wp_instT 3 (pc := 115) dX11_told_115 (hR.th hj) it_X11_203 (fun c115 => ?_) (fun c115 => ?_)
        · skip
          refine wp_if_eq (pc := 118) (tgt := 135) dX11_told_118 (by decide) (fun z => absurd z (by decide)) (fun _ => ?_)
          refine wp_aload_n (pc := 121) dX11_told_121 rfl rfl ?_
          refine wp_cast (pc := 122) dX11_told_122 (hR.thR hj c115) ca_X11_203_7 ?_
          refine wp_astore (pc := 125) (lv' := [_, _, _, _, _]) dX11_told_125 (Nat.le_of_ble_eq_true rfl) rfl rfl ?_
          refine wp_aload (pc := 127) dX11_told_127 rfl ?_
          refine wp_get (pc := 129) dX11_told_129 fl_X11_282_7 (hR.thR hj c115) rfl ?_
          refine wp_goto (pc := 132) (tgt := 136) dX11_told_132 (by decide) ?_
          exact wp_iret (pc := 136) dX11_told_136 rfl ⟨by subst c18; simp only [f_told, i1, e1, if_true, if_false, Bool.true_eq_false, Bool.false_eq_true, reduceIte, reduceCtorEq, Bool.not_true, Bool.not_false, true_and, and_true, and_false, false_and, or_true, true_or, or_false, false_or, not_true_eq_false, not_false_eq_true] <;> rfl, rfl⟩
        · skip
          refine wp_if_eq (pc := 118) (tgt := 135) dX11_told_118 (by decide) (fun _ => ?_) (fun z => absurd (by decide) z)
          refine wp_iconst (pc := 135) (v := (-1)) dX11_told_135 (by decide) ?_
          exact wp_iret (pc := 136) dX11_told_136 rfl ⟨by subst c18; simp only [f_told, i1, e1, q5 c115, if_true, if_false, Bool.true_eq_false, Bool.false_eq_true, reduceIte, reduceCtorEq, Bool.not_true, Bool.not_false, true_and, and_true, and_false, false_and, or_true, true_or, or_false, false_or, not_true_eq_false, not_false_eq_true] <;> rfl, rfl⟩
      · skip
        refine wp_aload_n (pc := 137) dX11_told_137 rfl rfl ?_
        refine wp_instT 4 (pc := 138) dX11_told_138 (hR.th hj) it_X11_285 (fun c138 => ?_) (fun c138 => ?_)
        · skip
          refine wp_if_eq (pc := 141) (tgt := 158) dX11_told_141 (by decide) (fun z => absurd z (by decide)) (fun _ => ?_)
          refine wp_aload_n (pc := 144) dX11_told_144 rfl rfl ?_
          refine wp_cast (pc := 145) dX11_told_145 (hR.thW hj c138) ca_X11_285_10 ?_
          refine wp_astore (pc := 148) (lv' := [_, _, _, _, _]) dX11_told_148 (Nat.le_of_ble_eq_true rfl) rfl rfl ?_
          refine wp_aload (pc := 150) dX11_told_150 rfl ?_
          refine wp_get (pc := 152) dX11_told_152 fl_X11_287_10 (hR.thW hj c138) rfl ?_
          refine wp_goto (pc := 155) (tgt := 159) dX11_told_155 (by decide) ?_
          exact wp_iret (pc := 159) dX11_told_159 rfl ⟨by subst c18; simp only [f_told, i1, e1, if_true, if_false, Bool.true_eq_false, Bool.false_eq_true, reduceIte, reduceCtorEq, Bool.not_true, Bool.not_false, true_and, and_true, and_false, false_and, or_true, true_or, or_false, false_or, not_true_eq_false, not_false_eq_true] <;> rfl, rfl⟩
        · skip
          refine wp_if_eq (pc := 141) (tgt := 158) dX11_told_141 (by decide) (fun _ => ?_) (fun z => absurd (by decide) z)
          refine wp_iconst (pc := 158) (v := 0) dX11_told_158 (by decide) ?_
          exact wp_iret (pc := 159) dX11_told_159 rfl ⟨by subst c18; simp only [f_told, i1, e1, (q4 c138).1, if_true, if_false, Bool.true_eq_false, Bool.false_eq_true, reduceIte, reduceCtorEq, Bool.not_true, Bool.not_false, true_and, and_true, and_false, false_and, or_true, true_or, or_false, false_or, not_true_eq_false, not_false_eq_true] <;> rfl, rfl⟩
      · skip
        refine wp_aload_n (pc := 160) dX11_told_160 rfl rfl ?_
        refine wp_instT 4 (pc := 161) dX11_told_161 (hR.th hj) it_X11_285 (fun c161 => ?_) (fun c161 => ?_)
        · skip
          refine wp_if_eq (pc := 164) (tgt := 185) dX11_told_164 (by decide) (fun z => absurd z (by decide)) (fun _ => ?_)
          refine wp_aload_n (pc := 167) dX11_told_167 rfl rfl ?_
          refine wp_cast (pc := 168) dX11_told_168 (hR.thW hj c161) ca_X11_285_10 ?_
          refine wp_astore (pc := 171) (lv' := [_, _, _, _, _]) dX11_told_171 (Nat.le_of_ble_eq_true rfl) rfl rfl ?_
          refine wp_aload (pc := 173) dX11_told_173 rfl ?_
          refine wp_get (pc := 175) dX11_told_175 fl_X11_290_10 (hR.thW hj c161) rfl ?_
          refine wp_if_eq (pc := 178) (tgt := 185) dX11_told_178 (by decide) (fun c178 => ?_) (fun c178 => ?_)
          · skip
            refine wp_iconst (pc := 185) (v := 0) dX11_told_185 (by decide) ?_
            exact wp_iret (pc := 186) dX11_told_186 rfl ⟨by subst c18; simp only [f_told, i1, e1, eq_true c178, if_true, if_false, Bool.true_eq_false, Bool.false_eq_true, reduceIte, reduceCtorEq, Bool.not_true, Bool.not_false, true_and, and_true, and_false, false_and, or_true, true_or, or_false, false_or, not_true_eq_false, not_false_eq_true] <;> rfl, rfl⟩
          · skip
            refine wp_iconst (pc := 181) (v := 1) dX11_told_181 (by decide) ?_
            refine wp_goto (pc := 182) (tgt := 186) dX11_told_182 (by decide) ?_
            exact wp_iret (pc := 186) dX11_told_186 rfl ⟨by subst c18; simp only [f_told, i1, e1, eq_false c178, if_true, if_false, Bool.true_eq_false, Bool.false_eq_true, reduceIte, reduceCtorEq, Bool.not_true, Bool.not_false, true_and, and_true, and_false, false_and, or_true, true_or, or_false, false_or, not_true_eq_false, not_false_eq_true] <;> rfl, rfl⟩
        · skip
          refine wp_if_eq (pc := 164) (tgt := 185) dX11_told_164 (by decide) (fun _ => ?_) (fun z => absurd (by decide) z)
          refine wp_iconst (pc := 185) (v := 0) dX11_told_185 (by decide) ?_
          exact wp_iret (pc := 186) dX11_told_186 rfl ⟨by subst c18; simp only [f_told, i1, e1, (q4 c161).2, if_true, if_false, Bool.true_eq_false, Bool.false_eq_true, reduceIte, reduceCtorEq, Bool.not_true, Bool.not_false, true_and, and_true, and_false, false_and, or_true, true_or, or_false, false_or, not_true_eq_false, not_false_eq_true] <;> rfl, rfl⟩
      · skip
        refine wp_aload_n (pc := 187) dX11_told_187 rfl rfl ?_
        refine wp_iload_n (pc := 188) dX11_told_188 rfl rfl ?_
        refine wc_VP (pc := 189) (μ2 := mX11_usersOf) (rc := 0) (rs := 0) [_] dX11_told_189 rfl hR.bd rfl cv_X11_293_12 rfl ⟨(Nat.le_of_ble_eq_true rfl), (Nat.le_of_ble_eq_true rfl)⟩ (Nat.le_of_ble_eq_true rfl) (c_usersOf l G hR hb hj) ?_
        exact wp_iret (pc := 192) dX11_told_192 rfl ⟨by subst c18; simp only [f_told, i1, e1, if_true, if_false, Bool.true_eq_false, Bool.false_eq_true, reduceIte, reduceCtorEq, Bool.not_true, Bool.not_false, true_and, and_true, and_false, false_and, or_true, true_or, or_false, false_or, not_true_eq_false, not_false_eq_true] <;> rfl, rfl⟩
      · skip
        refine wp_aload_n (pc := 193) dX11_told_193 rfl rfl ?_
        refine wp_instT 4 (pc := 194) dX11_told_194 (hR.th hj) it_X11_285 (fun c194 => ?_) (fun c194 => ?_)
        · skip
          refine wp_if_eq (pc := 197) (tgt := 218) dX11_told_197 (by decide) (fun z => absurd z (by decide)) (fun _ => ?_)
          refine wp_aload_n (pc := 200) dX11_told_200 rfl rfl ?_
          refine wp_cast (pc := 201) dX11_told_201 (hR.thW hj c194) ca_X11_285_10 ?_
          refine wp_astore (pc := 204) (lv' := [_, _, _, _, _]) dX11_told_204 (Nat.le_of_ble_eq_true rfl) rfl rfl ?_
          refine wp_aload (pc := 206) dX11_told_206 rfl ?_
          refine wp_iload_n (pc := 208) dX11_told_208 rfl rfl ?_
          refine wp_bipush (pc := 209) (v := 9) dX11_told_209 (by decide) ?_
          refine wp_isub (pc := 211) dX11_told_211 ?_
          refine wc_VP (pc := 212) (μ2 := mX9_queuedAt) (rc := 0) (rs := 0) [_] dX11_told_212 rfl (hR.thW hj c194) rfl cv_X11_297_10 rfl ⟨(Nat.le_of_ble_eq_true rfl), (Nat.le_of_ble_eq_true rfl)⟩ (Nat.le_of_ble_eq_true rfl) (c_queuedAt l G hR hj c194 hTI0 _) ?_
          refine wp_goto (pc := 215) (tgt := 219) dX11_told_215 (by decide) ?_
          exact wp_iret (pc := 219) dX11_told_219 rfl ⟨by rw [f_told]; simp only [i1, e1, eq_true c11, if_true, if_false, Bool.true_eq_false, Bool.false_eq_true, reduceIte, reduceCtorEq, Bool.not_true, Bool.not_false, true_and, and_true, and_false, false_and, or_true, true_or, or_false, false_or, not_true_eq_false, not_false_eq_true]; rw [if_neg (sw_ne c18 (by decide)), if_neg (sw_ne c18 (by decide)), if_neg (sw_ne c18 (by decide)), if_neg (sw_ne c18 (by decide)), if_neg (sw_ne c18 (by decide)), if_neg (sw_ne c18 (by decide)), if_neg (sw_ne c18 (by decide)), if_neg (sw_ne c18 (by decide)), if_neg (sw_ne c18 (by decide))]; exact congrArg (fun z => some (Value.int z)) ((told9 q2 c11 c18 (fun m => M.2.1 17 (8 * j + m))).trans (by rw [← q1])), rfl⟩
        · skip
          refine wp_if_eq (pc := 197) (tgt := 218) dX11_told_197 (by decide) (fun _ => ?_) (fun z => absurd (by decide) z)
          refine wp_iconst (pc := 218) (v := (-1)) dX11_told_218 (by decide) ?_
          exact wp_iret (pc := 219) dX11_told_219 rfl ⟨by rw [f_told]; simp only [i1, e1, eq_true c11, if_true, if_false, Bool.true_eq_false, Bool.false_eq_true, reduceIte, reduceCtorEq, Bool.not_true, Bool.not_false, true_and, and_true, and_false, false_and, or_true, true_or, or_false, false_or, not_true_eq_false, not_false_eq_true]; rw [if_neg (sw_ne c18 (by decide)), if_neg (sw_ne c18 (by decide)), if_neg (sw_ne c18 (by decide)), if_neg (sw_ne c18 (by decide)), if_neg (sw_ne c18 (by decide)), if_neg (sw_ne c18 (by decide)), if_neg (sw_ne c18 (by decide)), if_neg (sw_ne c18 (by decide)), if_neg (sw_ne c18 (by decide)), (q4 c194).1, if_pos (told_le c11 c18)], rfl⟩
    · skip
      refine wp_bipush (pc := 14) (v := (-2)) dX11_told_14 (by decide) ?_
      exact wp_iret (pc := 16) dX11_told_16 rfl ⟨by simp only [f_told, i1, eq_false c11, if_true, if_false, Bool.true_eq_false, Bool.false_eq_true, reduceIte, reduceCtorEq, Bool.not_true, Bool.not_false, true_and, and_true, and_false, false_and, or_true, true_or, or_false, false_or, not_true_eq_false, not_false_eq_true], rfl⟩
theorem clW_t {b : Bool} (h : ¬ b = false) : b = true := by simpa using h
theorem c_isInClash (hR : RH G hp A M h) (hb : bnd M) {t : Nat} (ht : t < nx (M.1 11)) : SpP l G mX11_isInClash [.ref (A.1 0 0), .ref (A.1 7 t), .int (nI t)] h (.int (bi (clsB M t))) := by
  refine Sp.intro (lv := [_, _, _, _, _, _, _, _]) (by decide) rfl (Nat.le_of_ble_eq_true rfl) ?_
  refine wp_widen (rc' := 0) (rs' := 0) (Nat.le_refl _) (Nat.le_refl _) ?_
  have hb9 := hb
  unfold bnd at hb9
  generalize hQ0 : (fun (w : Option Value) (h' : Hp) => w = some (.int (bi (clsB M t))) ∧ h' = h) = Q0
  have loop : ∀ i, i ≤ nx (M.1 6) → wp l G mX11_isInClash (zM G mX11_isInClash Q0) 11 [some (.ref (A.1 0 0)), some (.ref (A.1 7 t)), some (.int (nI t)), some (.int (mysN M t (i))), some (.int (clC M t (i))), some (.int (clP M t (i))), some (.int (nI (i))), none] [] h 0 0 := by
    refine loopU _ (nx (M.1 6)) (fun i hi ih => ?_) ?_
    · refine wp_iload (pc := 11) dX11_isInClash_11 rfl ?_
      refine wp_aload_n (pc := 13) dX11_isInClash_13 rfl rfl ?_
      refine wp_get (pc := 14) dX11_isInClash_14 fl_X11_16_12 hR.bd rfl ?_
      refine wc_VP (pc := 17) (μ2 := mJx4a65c_size_8abf5) (rc := 0) (rs := 0) [] dX11_isInClash_17 rfl (hR.lst (ll := 1) (by omega)) rfl cv_X11_87_0 rfl ⟨(Nat.le_of_ble_eq_true rfl), (Nat.le_of_ble_eq_true rfl)⟩ (Nat.le_of_ble_eq_true rfl) (show SpP l G mJx4a65c_size_8abf5 [_] _ (.int (nI (nx (M.1 6)))) from j_size l G _ (hR.lst (ll := 1) (by omega))) ?_
      refine wp_icmp_ge (pc := 20) (tgt := 84) dX11_isInClash_20 (by decide) (fun z => absurd z (nI_ge hi (by omega))) (fun _ => ?_)
      refine wp_aload_n (pc := 23) dX11_isInClash_23 rfl rfl ?_
      refine wp_iload (pc := 24) dX11_isInClash_24 rfl ?_
      refine wp_iload_n (pc := 26) dX11_isInClash_26 rfl rfl ?_
      refine wc_VP (pc := 27) (μ2 := mX11_memoryAt) (rc := 0) (rs := 0) [_, _] dX11_isInClash_27 rfl hR.bd rfl cv_X11_186_12 rfl ⟨(Nat.le_of_ble_eq_true rfl), (Nat.le_of_ble_eq_true rfl)⟩ (Nat.le_of_ble_eq_true rfl) (c_memoryAt l G _ _ hR hb) ?_
      rw [mAt_t hb hi ht]
      refine wp_astore (pc := 30) (lv' := [_, _, _, _, _, _, _, _]) dX11_isInClash_30 (Nat.le_of_ble_eq_true rfl) rfl rfl ?_
      refine wp_aload (pc := 32) dX11_isInClash_32 rfl ?_
      refine wp_ifnullR (pc := 34) dX11_isInClash_34 ?_
      refine wp_aload_n (pc := 37) dX11_isInClash_37 rfl rfl ?_
      refine wp_iload (pc := 38) dX11_isInClash_38 rfl ?_
      refine wp_iload_n (pc := 40) dX11_isInClash_40 rfl rfl ?_
      refine wc_VP (pc := 41) (μ2 := mX11_mayUse) (rc := 0) (rs := 0) [_, _] dX11_isInClash_41 rfl hR.bd rfl cv_X11_300_12 rfl ⟨(Nat.le_of_ble_eq_true rfl), (Nat.le_of_ble_eq_true rfl)⟩ (Nat.le_of_ble_eq_true rfl) (c_mayUse l G hR hb hi ht) ?_
      refine wp_ifB_eq (pc := 44) (tgt := 78) dX11_isInClash_44 (by decide) (fun c44 => ?_) (fun c44 => ?_)
      · skip
        refine wp_iinc (pc := 78) (v := _ + 1) (lv' := [_, _, _, _, _, _, _, _]) dX11_isInClash_78 rfl rfl rfl rfl ?_
        refine wp_goto (pc := 81) (tgt := 11) dX11_isInClash_81 (by decide) ?_
        exact wp_drop ih (by simp [lvle, mysN, clC, clP, bi, nI_1, c44])
      · skip
        refine wp_iinc (pc := 47) (v := _ + 1) (lv' := [_, _, _, _, _, _, _, _]) dX11_isInClash_47 rfl rfl rfl rfl ?_
        refine wp_iload (pc := 50) dX11_isInClash_50 rfl ?_
        refine wp_aload (pc := 52) dX11_isInClash_52 rfl ?_
        refine wp_get (pc := 54) dX11_isInClash_54 fl_X11_190_4 (hR.mm (i := 20 * i + t) (by omega)) rfl ?_
        refine wp_if_ne (pc := 57) (tgt := 64) dX11_isInClash_57 (by decide) (fun c57 => ?_) (fun c57 => ?_)
        · skip
          refine wp_iconst (pc := 64) (v := 0) dX11_isInClash_64 (by decide) ?_
          refine wp_iadd (pc := 65) dX11_isInClash_65 ?_
          refine wp_istore (pc := 66) (lv' := [_, _, _, _, _, _, _, _]) dX11_isInClash_66 (Nat.le_of_ble_eq_true rfl) rfl rfl ?_
          refine wp_iload (pc := 68) dX11_isInClash_68 rfl ?_
          refine wp_aload (pc := 70) dX11_isInClash_70 rfl ?_
          refine wp_get (pc := 72) dX11_isInClash_72 fl_X11_193_4 (hR.mm (i := 20 * i + t) (by omega)) rfl ?_
          refine wp_iadd (pc := 75) dX11_isInClash_75 ?_
          refine wp_istore (pc := 76) (lv' := [_, _, _, _, _, _, _, _]) dX11_isInClash_76 (Nat.le_of_ble_eq_true rfl) rfl rfl ?_
          refine wp_iinc (pc := 78) (v := _ + 1) (lv' := [_, _, _, _, _, _, _, _]) dX11_isInClash_78 rfl rfl rfl rfl ?_
          refine wp_goto (pc := 81) (tgt := 11) dX11_isInClash_81 (by decide) ?_
          exact wp_drop ih (by simp [lvle, mysN, clC, clP, bi, nI_1, c44, eq_false c57])
        · skip
          refine wp_iconst (pc := 60) (v := 1) dX11_isInClash_60 (by decide) ?_
          refine wp_goto (pc := 61) (tgt := 65) dX11_isInClash_61 (by decide) ?_
          refine wp_iadd (pc := 65) dX11_isInClash_65 ?_
          refine wp_istore (pc := 66) (lv' := [_, _, _, _, _, _, _, _]) dX11_isInClash_66 (Nat.le_of_ble_eq_true rfl) rfl rfl ?_
          refine wp_iload (pc := 68) dX11_isInClash_68 rfl ?_
          refine wp_aload (pc := 70) dX11_isInClash_70 rfl ?_
          refine wp_get (pc := 72) dX11_isInClash_72 fl_X11_193_4 (hR.mm (i := 20 * i + t) (by omega)) rfl ?_
          refine wp_iadd (pc := 75) dX11_isInClash_75 ?_
          refine wp_istore (pc := 76) (lv' := [_, _, _, _, _, _, _, _]) dX11_isInClash_76 (Nat.le_of_ble_eq_true rfl) rfl rfl ?_
          refine wp_iinc (pc := 78) (v := _ + 1) (lv' := [_, _, _, _, _, _, _, _]) dX11_isInClash_78 rfl rfl rfl rfl ?_
          refine wp_goto (pc := 81) (tgt := 11) dX11_isInClash_81 (by decide) ?_
          exact wp_drop ih (by simp [lvle, mysN, clC, clP, bi, nI_1, c44, eq_true c57])
    · refine wp_iload (pc := 11) dX11_isInClash_11 rfl ?_
      refine wp_aload_n (pc := 13) dX11_isInClash_13 rfl rfl ?_
      refine wp_get (pc := 14) dX11_isInClash_14 fl_X11_16_12 hR.bd rfl ?_
      refine wc_VP (pc := 17) (μ2 := mJx4a65c_size_8abf5) (rc := 0) (rs := 0) [] dX11_isInClash_17 rfl (hR.lst (ll := 1) (by omega)) rfl cv_X11_87_0 rfl ⟨(Nat.le_of_ble_eq_true rfl), (Nat.le_of_ble_eq_true rfl)⟩ (Nat.le_of_ble_eq_true rfl) (show SpP l G mJx4a65c_size_8abf5 [_] _ (.int (nI (nx (M.1 6)))) from j_size l G _ (hR.lst (ll := 1) (by omega))) ?_
      refine wp_icmp_ge (pc := 20) (tgt := 84) dX11_isInClash_20 (by decide) (fun _ => ?_) (fun z => absurd (nI_le (Nat.le_refl _) (by omega)) z)
      refine wp_aload_n (pc := 84) dX11_isInClash_84 rfl rfl ?_
      refine wp_instT 2 (pc := 85) dX11_isInClash_85 (hR.th ht) it_X11_277 (fun c85 => ?_) (fun c85 => ?_)
      · skip
        refine wp_if_eq (pc := 88) (tgt := 115) dX11_isInClash_88 (by decide) (fun z => absurd z (by decide)) (fun _ => ?_)
        refine wp_aload_n (pc := 91) dX11_isInClash_91 rfl rfl ?_
        refine wp_cast (pc := 92) dX11_isInClash_92 (hR.thC ht c85) ca_X11_277_1 ?_
        refine wp_astore (pc := 95) (lv' := [_, _, _, _, _, _, _, _]) dX11_isInClash_95 (Nat.le_of_ble_eq_true rfl) rfl rfl ?_
        refine wp_iload (pc := 97) dX11_isInClash_97 rfl ?_
        refine wp_aload (pc := 99) dX11_isInClash_99 rfl ?_
        refine wp_get (pc := 101) dX11_isInClash_101 fl_X11_279_1 (hR.thC ht c85) rfl ?_
        refine wp_icmp_le (pc := 104) (tgt := 111) dX11_isInClash_104 (by decide) (fun c104 => ?_) (fun c104 => ?_)
        · skip
          refine wp_iconst (pc := 111) (v := 0) dX11_isInClash_111 (by decide) ?_
          refine wp_goto (pc := 112) (tgt := 130) dX11_isInClash_112 (by decide) ?_
          exact wp_zret (pc := 130) dX11_isInClash_130 rfl (by decide) (by rw [← hQ0]; exact ⟨by simp only [clsB, bi, eq_true c85, eq_true c104, if_true, if_false, Bool.true_eq_false, Bool.false_eq_true, reduceIte, reduceCtorEq, Bool.not_true, Bool.not_false, true_and, and_true, and_false, false_and, or_true, true_or, or_false, false_or, not_true_eq_false, not_false_eq_true], rfl⟩)
        · skip
          refine wp_iconst (pc := 107) (v := 1) dX11_isInClash_107 (by decide) ?_
          refine wp_goto (pc := 108) (tgt := 130) dX11_isInClash_108 (by decide) ?_
          exact wp_zret (pc := 130) dX11_isInClash_130 rfl (by decide) (by rw [← hQ0]; exact ⟨by simp only [clsB, bi, eq_true c85, eq_false c104, if_true, if_false, Bool.true_eq_false, Bool.false_eq_true, reduceIte, reduceCtorEq, Bool.not_true, Bool.not_false, true_and, and_true, and_false, false_and, or_true, true_or, or_false, false_or, not_true_eq_false, not_false_eq_true], rfl⟩)
      · skip
        refine wp_if_eq (pc := 88) (tgt := 115) dX11_isInClash_88 (by decide) (fun _ => ?_) (fun z => absurd (by decide) z)
        refine wp_iload (pc := 115) dX11_isInClash_115 rfl ?_
        refine wp_if_le (pc := 117) (tgt := 129) dX11_isInClash_117 (by decide) (fun c117 => ?_) (fun c117 => ?_)
        · skip
          refine wp_iconst (pc := 129) (v := 0) dX11_isInClash_129 (by decide) ?_
          exact wp_zret (pc := 130) dX11_isInClash_130 rfl (by decide) (by rw [← hQ0]; exact ⟨by simp only [clsB, bi, eq_false c85, (clC_w M t (by omega)).mp c117, if_true, if_false, Bool.true_eq_false, Bool.false_eq_true, reduceIte, reduceCtorEq, Bool.not_true, Bool.not_false, true_and, and_true, and_false, false_and, or_true, true_or, or_false, false_or, not_true_eq_false, not_false_eq_true], rfl⟩)
        · skip
          refine wp_iload_n (pc := 120) dX11_isInClash_120 rfl rfl ?_
          refine wp_iconst (pc := 121) (v := 1) dX11_isInClash_121 (by decide) ?_
          refine wp_icmp_le (pc := 122) (tgt := 129) dX11_isInClash_122 (by decide) (fun c122 => ?_) (fun c122 => ?_)
          · skip
            refine wp_iconst (pc := 129) (v := 0) dX11_isInClash_129 (by decide) ?_
            exact wp_zret (pc := 130) dX11_isInClash_130 rfl (by decide) (by rw [← hQ0]; exact ⟨by simp only [clsB, bi, eq_false c85, clW_t (fun z => c117 ((clC_w M t (by omega)).mpr z)), eq_true c122, if_true, if_false, Bool.true_eq_false, Bool.false_eq_true, reduceIte, reduceCtorEq, Bool.not_true, Bool.not_false, true_and, and_true, and_false, false_and, or_true, true_or, or_false, false_or, not_true_eq_false, not_false_eq_true], rfl⟩)
          · skip
            refine wp_iconst (pc := 125) (v := 1) dX11_isInClash_125 (by decide) ?_
            refine wp_goto (pc := 126) (tgt := 130) dX11_isInClash_126 (by decide) ?_
            exact wp_zret (pc := 130) dX11_isInClash_130 rfl (by decide) (by rw [← hQ0]; exact ⟨by simp only [clsB, bi, eq_false c85, clW_t (fun z => c117 ((clC_w M t (by omega)).mpr z)), eq_false c122, if_true, if_false, Bool.true_eq_false, Bool.false_eq_true, reduceIte, reduceCtorEq, Bool.not_true, Bool.not_false, true_and, and_true, and_false, false_and, or_true, true_or, or_false, false_or, not_true_eq_false, not_false_eq_true], rfl⟩)
  refine wp_iconst (pc := 0) (v := 0) dX11_isInClash_0 (by decide) ?_
  refine wp_istore_n (pc := 1) (lv' := [_, _, _, _, _, _, _, _]) dX11_isInClash_1 rfl (Nat.le_of_ble_eq_true rfl) rfl rfl ?_
  refine wp_iconst (pc := 2) (v := 0) dX11_isInClash_2 (by decide) ?_
  refine wp_istore (pc := 3) (lv' := [_, _, _, _, _, _, _, _]) dX11_isInClash_3 (Nat.le_of_ble_eq_true rfl) rfl rfl ?_
  refine wp_iconst (pc := 5) (v := 0) dX11_isInClash_5 (by decide) ?_
  refine wp_istore (pc := 6) (lv' := [_, _, _, _, _, _, _, _]) dX11_isInClash_6 (Nat.le_of_ble_eq_true rfl) rfl rfl ?_
  refine wp_iconst (pc := 8) (v := 0) dX11_isInClash_8 (by decide) ?_
  refine wp_istore (pc := 9) (lv' := [_, _, _, _, _, _, _, _]) dX11_isInClash_9 (Nat.le_of_ble_eq_true rfl) rfl rfl ?_
  exact loop 0 (Nat.zero_le _)
theorem c_thingsInClash  (hR : RH G hp A M h) (hb : bnd M) : SpP l G mX11_thingsInClash [.ref (A.1 0 0)] h (.int (clsN M (nx (M.1 11)))) := by
  refine Sp.intro (lv := [_, _, _]) (by decide) rfl (Nat.le_of_ble_eq_true rfl) ?_
  refine wp_widen (rc' := 0) (rs' := 0) (Nat.le_refl _) (Nat.le_refl _) ?_
  have hb9 := hb
  unfold bnd at hb9
  generalize hQ0 : (fun (w : Option Value) (h' : Hp) => w = some (.int (clsN M (nx (M.1 11)))) ∧ h' = h) = Q0
  have loop : ∀ i, i ≤ nx (M.1 11) → wp l G mX11_thingsInClash (zM G mX11_thingsInClash Q0) 4 [some (.ref (A.1 0 0)), some (.int (clsN M (i))), some (.int (nI (i)))] [] h 0 0 := by
    refine loopU _ (nx (M.1 11)) (fun i hi ih => ?_) ?_
    · refine wp_iload_n (pc := 4) dX11_thingsInClash_4 rfl rfl ?_
      refine wp_aload_n (pc := 5) dX11_thingsInClash_5 rfl rfl ?_
      refine wp_get (pc := 6) dX11_thingsInClash_6 fl_X11_19_12 hR.bd rfl ?_
      refine wc_VP (pc := 9) (μ2 := mJx4a65c_size_8abf5) (rc := 0) (rs := 0) [] dX11_thingsInClash_9 rfl (hR.lst (ll := 2) (by omega)) rfl cv_X11_87_0 rfl ⟨(Nat.le_of_ble_eq_true rfl), (Nat.le_of_ble_eq_true rfl)⟩ (Nat.le_of_ble_eq_true rfl) (show SpP l G mJx4a65c_size_8abf5 [_] _ (.int (nI (nx (M.1 11)))) from j_size l G _ (hR.lst (ll := 2) (by omega))) ?_
      refine wp_icmp_ge (pc := 12) (tgt := 48) dX11_thingsInClash_12 (by decide) (fun z => absurd z (nI_ge hi (by omega))) (fun _ => ?_)
      refine wp_iload_n (pc := 15) dX11_thingsInClash_15 rfl rfl ?_
      refine wp_aload_n (pc := 16) dX11_thingsInClash_16 rfl rfl ?_
      refine wp_aload_n (pc := 17) dX11_thingsInClash_17 rfl rfl ?_
      refine wp_get (pc := 18) dX11_thingsInClash_18 fl_X11_19_12 hR.bd rfl ?_
      refine wp_iload_n (pc := 21) dX11_thingsInClash_21 rfl rfl ?_
      refine wc_VP (pc := 22) (μ2 := mJx4a65c_get_915e3) (rc := 0) (rs := 0) [_] dX11_thingsInClash_22 rfl (hR.lst (ll := 2) (by omega)) rfl cv_X11_383_0 rfl ⟨(Nat.le_of_ble_eq_true rfl), (Nat.le_of_ble_eq_true rfl)⟩ (Nat.le_of_ble_eq_true rfl) (j_get l G _ (hR.lst (ll := 2) (by omega)) (hR.dat (by omega)) hi (hR.cap (by omega)).1 (hR.cap (by omega)).2) ?_
      refine wp_castT (pc := 25) dX11_thingsInClash_25 (hR.th hi) cT_X11_161 ?_
      refine wp_iload_n (pc := 28) dX11_thingsInClash_28 rfl rfl ?_
      refine wc_VP (pc := 29) (μ2 := mX11_isInClash) (rc := 0) (rs := 0) [_, _] dX11_thingsInClash_29 rfl hR.bd rfl cv_X11_507_12 rfl ⟨(Nat.le_of_ble_eq_true rfl), (Nat.le_of_ble_eq_true rfl)⟩ (Nat.le_of_ble_eq_true rfl) (c_isInClash l G hR hb hi) ?_
      refine wp_ifB_eq (pc := 32) (tgt := 39) dX11_thingsInClash_32 (by decide) (fun c32 => ?_) (fun c32 => ?_)
      · skip
        refine wp_iconst (pc := 39) (v := 0) dX11_thingsInClash_39 (by decide) ?_
        refine wp_iadd (pc := 40) dX11_thingsInClash_40 ?_
        refine wp_istore_n (pc := 41) (lv' := [_, _, _]) dX11_thingsInClash_41 rfl (Nat.le_of_ble_eq_true rfl) rfl rfl ?_
        refine wp_iinc (pc := 42) (v := _ + 1) (lv' := [_, _, _]) dX11_thingsInClash_42 rfl rfl rfl rfl ?_
        refine wp_goto (pc := 45) (tgt := 4) dX11_thingsInClash_45 (by decide) ?_
        exact wp_lv ih (by simp [clsN, bi, nI_1, c32])
      · skip
        refine wp_iconst (pc := 35) (v := 1) dX11_thingsInClash_35 (by decide) ?_
        refine wp_goto (pc := 36) (tgt := 40) dX11_thingsInClash_36 (by decide) ?_
        refine wp_iadd (pc := 40) dX11_thingsInClash_40 ?_
        refine wp_istore_n (pc := 41) (lv' := [_, _, _]) dX11_thingsInClash_41 rfl (Nat.le_of_ble_eq_true rfl) rfl rfl ?_
        refine wp_iinc (pc := 42) (v := _ + 1) (lv' := [_, _, _]) dX11_thingsInClash_42 rfl rfl rfl rfl ?_
        refine wp_goto (pc := 45) (tgt := 4) dX11_thingsInClash_45 (by decide) ?_
        exact wp_lv ih (by simp [clsN, bi, nI_1, c32])
    · refine wp_iload_n (pc := 4) dX11_thingsInClash_4 rfl rfl ?_
      refine wp_aload_n (pc := 5) dX11_thingsInClash_5 rfl rfl ?_
      refine wp_get (pc := 6) dX11_thingsInClash_6 fl_X11_19_12 hR.bd rfl ?_
      refine wc_VP (pc := 9) (μ2 := mJx4a65c_size_8abf5) (rc := 0) (rs := 0) [] dX11_thingsInClash_9 rfl (hR.lst (ll := 2) (by omega)) rfl cv_X11_87_0 rfl ⟨(Nat.le_of_ble_eq_true rfl), (Nat.le_of_ble_eq_true rfl)⟩ (Nat.le_of_ble_eq_true rfl) (show SpP l G mJx4a65c_size_8abf5 [_] _ (.int (nI (nx (M.1 11)))) from j_size l G _ (hR.lst (ll := 2) (by omega))) ?_
      refine wp_icmp_ge (pc := 12) (tgt := 48) dX11_thingsInClash_12 (by decide) (fun _ => ?_) (fun z => absurd (nI_le (Nat.le_refl _) (by omega)) z)
      refine wp_iload_n (pc := 48) dX11_thingsInClash_48 rfl rfl ?_
      exact wp_iret (pc := 49) dX11_thingsInClash_49 rfl (by rw [← hQ0]; exact ⟨rfl, rfl⟩)
  refine wp_iconst (pc := 0) (v := 0) dX11_thingsInClash_0 (by decide) ?_
  refine wp_istore_n (pc := 1) (lv' := [_, _, _]) dX11_thingsInClash_1 rfl (Nat.le_of_ble_eq_true rfl) rfl rfl ?_
  refine wp_iconst (pc := 2) (v := 0) dX11_thingsInClash_2 (by decide) ?_
  refine wp_istore_n (pc := 3) (lv' := [_, _, _]) dX11_thingsInClash_3 rfl (Nat.le_of_ble_eq_true rfl) rfl rfl ?_
  exact loop 0 (Nat.zero_le _)
theorem k_count (what : Int32) (hR : RH G hp A M h) (hb : bnd M) (hC : cnts M) : SpP l G mX11_count [.ref (A.1 0 0), .int what] h (.int (f_count M what)) := by
  refine Sp.intro (lv := [_, _]) (by decide) rfl (Nat.le_of_ble_eq_true rfl) ?_
  refine wp_widen (rc' := 0) (rs' := 0) (Nat.le_refl _) (Nat.le_refl _) ?_
  have hb9 := hb
  unfold bnd at hb9
  refine wp_iload_n (pc := 0) dX11_count_0 rfl rfl ?_
  refine wp_tsw_0_14 (pc := 1) dX11_count_1 (t0 := 76) (t1 := 84) (t2 := 92) (t3 := 100) (t4 := 105) (t5 := 113) (t6 := 118) (t7 := 123) (t8 := 128) (t9 := 133) (t10 := 138) (t11 := 143) (t12 := 148) (t13 := 153) (t14 := 158) (td := 163) (by decide) (by decide) (by decide) (by decide) (by decide) (by decide) (by decide) (by decide) (by decide) (by decide) (by decide) (by decide) (by decide) (by decide) (by decide) (by decide) (fun c1 => ?_) (fun c1 => ?_) (fun c1 => ?_) (fun c1 => ?_) (fun c1 => ?_) (fun c1 => ?_) (fun c1 => ?_) (fun c1 => ?_) (fun c1 => ?_) (fun c1 => ?_) (fun c1 => ?_) (fun c1 => ?_) (fun c1 => ?_) (fun c1 => ?_) (fun c1 => ?_) (fun c1 => ?_)
  · skip
    refine wp_aload_n (pc := 76) dX11_count_76 rfl rfl ?_
    refine wp_get (pc := 77) dX11_count_77 fl_X11_10_12 hR.bd rfl ?_
    refine wc_VP (pc := 80) (μ2 := mJx4a65c_size_8abf5) (rc := 0) (rs := 0) [] dX11_count_80 rfl (hR.lst (ll := 0) (by omega)) rfl cv_X11_87_0 rfl ⟨(Nat.le_of_ble_eq_true rfl), (Nat.le_of_ble_eq_true rfl)⟩ (Nat.le_of_ble_eq_true rfl) (show SpP l G mJx4a65c_size_8abf5 [_] _ (.int (nI (nx (M.1 2)))) from j_size l G _ (hR.lst (ll := 0) (by omega))) ?_
    exact wp_iret (pc := 83) dX11_count_83 rfl ⟨by subst c1; simp only [f_count, if_true, if_false, Bool.true_eq_false, Bool.false_eq_true, reduceIte, reduceCtorEq, Bool.not_true, Bool.not_false, true_and, and_true, and_false, false_and, or_true, true_or, or_false, false_or, not_true_eq_false, not_false_eq_true] <;> first | rfl | exact congrArg (fun z => some (Value.int z)) hC.1.symm | exact congrArg (fun z => some (Value.int z)) hC.2.1.symm | exact congrArg (fun z => some (Value.int z)) hC.2.2.1.symm | exact congrArg (fun z => some (Value.int z)) hC.2.2.2.1.symm, rfl⟩
  · skip
    refine wp_aload_n (pc := 84) dX11_count_84 rfl rfl ?_
    refine wp_get (pc := 85) dX11_count_85 fl_X11_16_12 hR.bd rfl ?_
    refine wc_VP (pc := 88) (μ2 := mJx4a65c_size_8abf5) (rc := 0) (rs := 0) [] dX11_count_88 rfl (hR.lst (ll := 1) (by omega)) rfl cv_X11_87_0 rfl ⟨(Nat.le_of_ble_eq_true rfl), (Nat.le_of_ble_eq_true rfl)⟩ (Nat.le_of_ble_eq_true rfl) (show SpP l G mJx4a65c_size_8abf5 [_] _ (.int (nI (nx (M.1 6)))) from j_size l G _ (hR.lst (ll := 1) (by omega))) ?_
    exact wp_iret (pc := 91) dX11_count_91 rfl ⟨by subst c1; simp only [f_count, if_true, if_false, Bool.true_eq_false, Bool.false_eq_true, reduceIte, reduceCtorEq, Bool.not_true, Bool.not_false, true_and, and_true, and_false, false_and, or_true, true_or, or_false, false_or, not_true_eq_false, not_false_eq_true] <;> first | rfl | exact congrArg (fun z => some (Value.int z)) hC.1.symm | exact congrArg (fun z => some (Value.int z)) hC.2.1.symm | exact congrArg (fun z => some (Value.int z)) hC.2.2.1.symm | exact congrArg (fun z => some (Value.int z)) hC.2.2.2.1.symm, rfl⟩
  · skip
    refine wp_aload_n (pc := 92) dX11_count_92 rfl rfl ?_
    refine wp_get (pc := 93) dX11_count_93 fl_X11_19_12 hR.bd rfl ?_
    refine wc_VP (pc := 96) (μ2 := mJx4a65c_size_8abf5) (rc := 0) (rs := 0) [] dX11_count_96 rfl (hR.lst (ll := 2) (by omega)) rfl cv_X11_87_0 rfl ⟨(Nat.le_of_ble_eq_true rfl), (Nat.le_of_ble_eq_true rfl)⟩ (Nat.le_of_ble_eq_true rfl) (show SpP l G mJx4a65c_size_8abf5 [_] _ (.int (nI (nx (M.1 11)))) from j_size l G _ (hR.lst (ll := 2) (by omega))) ?_
    exact wp_iret (pc := 99) dX11_count_99 rfl ⟨by subst c1; simp only [f_count, if_true, if_false, Bool.true_eq_false, Bool.false_eq_true, reduceIte, reduceCtorEq, Bool.not_true, Bool.not_false, true_and, and_true, and_false, false_and, or_true, true_or, or_false, false_or, not_true_eq_false, not_false_eq_true] <;> first | rfl | exact congrArg (fun z => some (Value.int z)) hC.1.symm | exact congrArg (fun z => some (Value.int z)) hC.2.1.symm | exact congrArg (fun z => some (Value.int z)) hC.2.2.1.symm | exact congrArg (fun z => some (Value.int z)) hC.2.2.2.1.symm, rfl⟩
  · skip
    refine wp_aload_n (pc := 100) dX11_count_100 rfl rfl ?_
    refine wp_get (pc := 101) dX11_count_101 fl_X11_39_12 hR.bd rfl ?_
    exact wp_iret (pc := 104) dX11_count_104 rfl ⟨by subst c1; simp only [f_count, if_true, if_false, Bool.true_eq_false, Bool.false_eq_true, reduceIte, reduceCtorEq, Bool.not_true, Bool.not_false, true_and, and_true, and_false, false_and, or_true, true_or, or_false, false_or, not_true_eq_false, not_false_eq_true] <;> first | rfl | exact congrArg (fun z => some (Value.int z)) hC.1.symm | exact congrArg (fun z => some (Value.int z)) hC.2.1.symm | exact congrArg (fun z => some (Value.int z)) hC.2.2.1.symm | exact congrArg (fun z => some (Value.int z)) hC.2.2.2.1.symm, rfl⟩
  · skip
    refine wp_aload_n (pc := 105) dX11_count_105 rfl rfl ?_
    refine wp_get (pc := 106) dX11_count_106 fl_X11_22_12 hR.bd rfl ?_
    refine wc_VP (pc := 109) (μ2 := mJx4a65c_size_8abf5) (rc := 0) (rs := 0) [] dX11_count_109 rfl (hR.lst (ll := 3) (by omega)) rfl cv_X11_87_0 rfl ⟨(Nat.le_of_ble_eq_true rfl), (Nat.le_of_ble_eq_true rfl)⟩ (Nat.le_of_ble_eq_true rfl) (show SpP l G mJx4a65c_size_8abf5 [_] _ (.int (nI (nx (M.1 35)))) from j_size l G _ (hR.lst (ll := 3) (by omega))) ?_
    exact wp_iret (pc := 112) dX11_count_112 rfl ⟨by subst c1; simp only [f_count, if_true, if_false, Bool.true_eq_false, Bool.false_eq_true, reduceIte, reduceCtorEq, Bool.not_true, Bool.not_false, true_and, and_true, and_false, false_and, or_true, true_or, or_false, false_or, not_true_eq_false, not_false_eq_true] <;> first | rfl | exact congrArg (fun z => some (Value.int z)) hC.1.symm | exact congrArg (fun z => some (Value.int z)) hC.2.1.symm | exact congrArg (fun z => some (Value.int z)) hC.2.2.1.symm | exact congrArg (fun z => some (Value.int z)) hC.2.2.2.1.symm, rfl⟩
  · skip
    refine wp_aload_n (pc := 113) dX11_count_113 rfl rfl ?_
    refine wc_VP (pc := 114) (μ2 := mX11_lettersUnderWay) (rc := 0) (rs := 0) [] dX11_count_114 rfl hR.bd rfl cv_X11_312_12 rfl ⟨(Nat.le_of_ble_eq_true rfl), (Nat.le_of_ble_eq_true rfl)⟩ (Nat.le_of_ble_eq_true rfl) (c_lettersUnderWay l G hR hb) ?_
    exact wp_iret (pc := 117) dX11_count_117 rfl ⟨by subst c1; simp only [f_count, if_true, if_false, Bool.true_eq_false, Bool.false_eq_true, reduceIte, reduceCtorEq, Bool.not_true, Bool.not_false, true_and, and_true, and_false, false_and, or_true, true_or, or_false, false_or, not_true_eq_false, not_false_eq_true] <;> first | rfl | exact congrArg (fun z => some (Value.int z)) hC.1.symm | exact congrArg (fun z => some (Value.int z)) hC.2.1.symm | exact congrArg (fun z => some (Value.int z)) hC.2.2.1.symm | exact congrArg (fun z => some (Value.int z)) hC.2.2.2.1.symm, rfl⟩
  · skip
    refine wp_aload_n (pc := 118) dX11_count_118 rfl rfl ?_
    refine wc_VP (pc := 119) (μ2 := mX11_keepersAwake) (rc := 0) (rs := 0) [] dX11_count_119 rfl hR.bd rfl cv_X11_315_12 rfl ⟨(Nat.le_of_ble_eq_true rfl), (Nat.le_of_ble_eq_true rfl)⟩ (Nat.le_of_ble_eq_true rfl) (c_keepersAwake l G hR hb) ?_
    exact wp_iret (pc := 122) dX11_count_122 rfl ⟨by subst c1; simp only [f_count, if_true, if_false, Bool.true_eq_false, Bool.false_eq_true, reduceIte, reduceCtorEq, Bool.not_true, Bool.not_false, true_and, and_true, and_false, false_and, or_true, true_or, or_false, false_or, not_true_eq_false, not_false_eq_true] <;> first | rfl | exact congrArg (fun z => some (Value.int z)) hC.1.symm | exact congrArg (fun z => some (Value.int z)) hC.2.1.symm | exact congrArg (fun z => some (Value.int z)) hC.2.2.1.symm | exact congrArg (fun z => some (Value.int z)) hC.2.2.2.1.symm, rfl⟩
  · skip
    refine wp_aload_n (pc := 123) dX11_count_123 rfl rfl ?_
    refine wp_get (pc := 124) dX11_count_124 fl_X11_46_12 hR.bd rfl ?_
    exact wp_iret (pc := 127) dX11_count_127 rfl ⟨by subst c1; simp only [f_count, if_true, if_false, Bool.true_eq_false, Bool.false_eq_true, reduceIte, reduceCtorEq, Bool.not_true, Bool.not_false, true_and, and_true, and_false, false_and, or_true, true_or, or_false, false_or, not_true_eq_false, not_false_eq_true] <;> first | rfl | exact congrArg (fun z => some (Value.int z)) hC.1.symm | exact congrArg (fun z => some (Value.int z)) hC.2.1.symm | exact congrArg (fun z => some (Value.int z)) hC.2.2.1.symm | exact congrArg (fun z => some (Value.int z)) hC.2.2.2.1.symm, rfl⟩
  · skip
    refine wp_aload_n (pc := 128) dX11_count_128 rfl rfl ?_
    refine wp_get (pc := 129) dX11_count_129 fl_X11_49_12 hR.bd rfl ?_
    exact wp_iret (pc := 132) dX11_count_132 rfl ⟨by subst c1; simp only [f_count, if_true, if_false, Bool.true_eq_false, Bool.false_eq_true, reduceIte, reduceCtorEq, Bool.not_true, Bool.not_false, true_and, and_true, and_false, false_and, or_true, true_or, or_false, false_or, not_true_eq_false, not_false_eq_true] <;> first | rfl | exact congrArg (fun z => some (Value.int z)) hC.1.symm | exact congrArg (fun z => some (Value.int z)) hC.2.1.symm | exact congrArg (fun z => some (Value.int z)) hC.2.2.1.symm | exact congrArg (fun z => some (Value.int z)) hC.2.2.2.1.symm, rfl⟩
  · skip
    refine wp_aload_n (pc := 133) dX11_count_133 rfl rfl ?_
    refine wp_get (pc := 134) dX11_count_134 fl_X11_52_12 hR.bd rfl ?_
    exact wp_iret (pc := 137) dX11_count_137 rfl ⟨by subst c1; simp only [f_count, if_true, if_false, Bool.true_eq_false, Bool.false_eq_true, reduceIte, reduceCtorEq, Bool.not_true, Bool.not_false, true_and, and_true, and_false, false_and, or_true, true_or, or_false, false_or, not_true_eq_false, not_false_eq_true] <;> first | rfl | exact congrArg (fun z => some (Value.int z)) hC.1.symm | exact congrArg (fun z => some (Value.int z)) hC.2.1.symm | exact congrArg (fun z => some (Value.int z)) hC.2.2.1.symm | exact congrArg (fun z => some (Value.int z)) hC.2.2.2.1.symm, rfl⟩
  · skip
    refine wp_aload_n (pc := 138) dX11_count_138 rfl rfl ?_
    refine wp_get (pc := 139) dX11_count_139 fl_X11_55_12 hR.bd rfl ?_
    exact wp_iret (pc := 142) dX11_count_142 rfl ⟨by subst c1; simp only [f_count, if_true, if_false, Bool.true_eq_false, Bool.false_eq_true, reduceIte, reduceCtorEq, Bool.not_true, Bool.not_false, true_and, and_true, and_false, false_and, or_true, true_or, or_false, false_or, not_true_eq_false, not_false_eq_true] <;> first | rfl | exact congrArg (fun z => some (Value.int z)) hC.1.symm | exact congrArg (fun z => some (Value.int z)) hC.2.1.symm | exact congrArg (fun z => some (Value.int z)) hC.2.2.1.symm | exact congrArg (fun z => some (Value.int z)) hC.2.2.2.1.symm, rfl⟩
  · skip
    refine wp_aload_n (pc := 143) dX11_count_143 rfl rfl ?_
    refine wp_get (pc := 144) dX11_count_144 fl_X11_58_12 hR.bd rfl ?_
    exact wp_iret (pc := 147) dX11_count_147 rfl ⟨by subst c1; simp only [f_count, if_true, if_false, Bool.true_eq_false, Bool.false_eq_true, reduceIte, reduceCtorEq, Bool.not_true, Bool.not_false, true_and, and_true, and_false, false_and, or_true, true_or, or_false, false_or, not_true_eq_false, not_false_eq_true] <;> first | rfl | exact congrArg (fun z => some (Value.int z)) hC.1.symm | exact congrArg (fun z => some (Value.int z)) hC.2.1.symm | exact congrArg (fun z => some (Value.int z)) hC.2.2.1.symm | exact congrArg (fun z => some (Value.int z)) hC.2.2.2.1.symm, rfl⟩
  · skip
    refine wp_aload_n (pc := 148) dX11_count_148 rfl rfl ?_
    refine wp_get (pc := 149) dX11_count_149 fl_X11_61_12 hR.bd rfl ?_
    exact wp_iret (pc := 152) dX11_count_152 rfl ⟨by subst c1; simp only [f_count, if_true, if_false, Bool.true_eq_false, Bool.false_eq_true, reduceIte, reduceCtorEq, Bool.not_true, Bool.not_false, true_and, and_true, and_false, false_and, or_true, true_or, or_false, false_or, not_true_eq_false, not_false_eq_true] <;> first | rfl | exact congrArg (fun z => some (Value.int z)) hC.1.symm | exact congrArg (fun z => some (Value.int z)) hC.2.1.symm | exact congrArg (fun z => some (Value.int z)) hC.2.2.1.symm | exact congrArg (fun z => some (Value.int z)) hC.2.2.2.1.symm, rfl⟩
  · skip
    refine wp_aload_n (pc := 153) dX11_count_153 rfl rfl ?_
    refine wp_get (pc := 154) dX11_count_154 fl_X11_64_12 hR.bd rfl ?_
    exact wp_iret (pc := 157) dX11_count_157 rfl ⟨by subst c1; simp only [f_count, if_true, if_false, Bool.true_eq_false, Bool.false_eq_true, reduceIte, reduceCtorEq, Bool.not_true, Bool.not_false, true_and, and_true, and_false, false_and, or_true, true_or, or_false, false_or, not_true_eq_false, not_false_eq_true] <;> first | rfl | exact congrArg (fun z => some (Value.int z)) hC.1.symm | exact congrArg (fun z => some (Value.int z)) hC.2.1.symm | exact congrArg (fun z => some (Value.int z)) hC.2.2.1.symm | exact congrArg (fun z => some (Value.int z)) hC.2.2.2.1.symm, rfl⟩
  · skip
    refine wp_aload_n (pc := 158) dX11_count_158 rfl rfl ?_
    refine wc_VP (pc := 159) (μ2 := mX11_thingsInClash) (rc := 0) (rs := 0) [] dX11_count_159 rfl hR.bd rfl cv_X11_318_12 rfl ⟨(Nat.le_of_ble_eq_true rfl), (Nat.le_of_ble_eq_true rfl)⟩ (Nat.le_of_ble_eq_true rfl) (c_thingsInClash l G hR hb) ?_
    exact wp_iret (pc := 162) dX11_count_162 rfl ⟨by subst c1; simp only [f_count, if_true, if_false, Bool.true_eq_false, Bool.false_eq_true, reduceIte, reduceCtorEq, Bool.not_true, Bool.not_false, true_and, and_true, and_false, false_and, or_true, true_or, or_false, false_or, not_true_eq_false, not_false_eq_true] <;> first | rfl | exact congrArg (fun z => some (Value.int z)) hC.1.symm | exact congrArg (fun z => some (Value.int z)) hC.2.1.symm | exact congrArg (fun z => some (Value.int z)) hC.2.2.1.symm | exact congrArg (fun z => some (Value.int z)) hC.2.2.2.1.symm, rfl⟩
  · skip
    refine wp_bipush (pc := 163) (v := (-2)) dX11_count_163 (by decide) ?_
    exact wp_iret (pc := 165) dX11_count_165 rfl ⟨by rw [f_count, if_neg (sw_ne c1 (by decide)), if_neg (sw_ne c1 (by decide)), if_neg (sw_ne c1 (by decide)), if_neg (sw_ne c1 (by decide)), if_neg (sw_ne c1 (by decide)), if_neg (sw_ne c1 (by decide)), if_neg (sw_ne c1 (by decide)), if_neg (sw_ne c1 (by decide)), if_neg (sw_ne c1 (by decide)), if_neg (sw_ne c1 (by decide)), if_neg (sw_ne c1 (by decide)), if_neg (sw_ne c1 (by decide)), if_neg (sw_ne c1 (by decide)), if_neg (sw_ne c1 (by decide)), if_neg (sw_ne c1 (by decide))], rfl⟩
end K7
