/-! ===== the class: trays, forge ===== -/
theorem sS_sS (M : MS) (k : Nat) (v w : Int32) : sS (sS M k v) k w = sS M k w := ms_ext (fun k' => by simp only [sS_at]; split <;> rfl) (fun _ _ => rfl) (fun _ _ => rfl)
theorem wp_instS {l : Launch} {G : WG} {μ : MI} {Z : WZ} {pc : Nat} {lv : List (Option Value)} {st : List Value} {h : Hp} {rc rs idx b : Nat} {κ : Int32} {fs : List Value} (hd : decode (mC μ) pc = .ok (.instanceof idx, 3)) (hc : h b = some (oB (tci κ) fs)) (h8 : castOK (mY μ).cls idx 8 ∧ castOK (mY μ).cls idx 1 ∧ castNo (mY μ).cls idx 7 ∧ castNo (mY μ).cls idx 10 ∧ castNo (mY μ).cls idx 5) (kk : wp l G μ Z (pc + 3) lv (.int (bi (isUn κ 1)) :: st) h rc rs) : wp l G μ Z pc lv (.ref b :: st) h rc rs := by
  obtain ⟨a, b1, c, d, e⟩ := h8
  by_cases h1 : κ = 1
  · subst h1; exact wp_instY hd (show h b = some (oB 8 fs) from hc) a kk
  · by_cases h2 : κ = 2
    · subst h2; exact wp_instY hd (show h b = some (oB 1 fs) from hc) b1 kk
    · have hu : isUn κ 1 = false := by unfold isUn; rw [if_neg (by decide), if_neg h1, if_neg h2]
      rw [hu] at kk
      by_cases h3 : κ = 3
      · subst h3; exact wp_instNo hd (show h b = some (oB 7 fs) from hc) c kk
      · by_cases h4 : κ = 4
        · subst h4; exact wp_instNo hd (show h b = some (oB 10 fs) from hc) d kk
        · have ht : tci κ = 5 := by unfold tci; rw [if_neg h1, if_neg h2, if_neg h3, if_neg h4]
          rw [ht] at hc
          exact wp_instNo hd hc e kk
theorem is_390 : castOK RX11 390 8 ∧ castOK RX11 390 1 ∧ castNo RX11 390 7 ∧ castNo RX11 390 10 ∧ castNo RX11 390 5 := ⟨ca_X11_390_8, ca_X11_390_1, cx_X11_390_7, cx_X11_390_10, cx_X11_390_5⟩
section RA29
variable {G : WG} {hp h : Hp} {A : AD} {M : MS} {y : Nat}
theorem RH.tr0 (hR : RH G hp A M h) (hy : y < 6) (e : M.2.1 54 y = 0) : h (A.1 16 y) = some (oB 9 [.null, .null, .null, .null]) := by
  have z := hR.tr (i := y) hy
  rw [e] at z
  exact z
theorem RH.tr1 (hR : RH G hp A M h) (hy : y < 6) (e : M.2.1 54 y = 1) : h (A.1 16 y) = some (oB 9 [.ref (A.1 7 (nx (M.2.1 55 y))), .null, .null, .null]) := by
  have z := hR.tr (i := y) hy
  rw [e] at z
  exact z
theorem RH.tr2 (hR : RH G hp A M h) (hy : y < 6) (e : M.2.1 54 y = 2) : h (A.1 16 y) = some (oB 9 [.null, .ref (A.1 9 (nx (M.2.1 55 y))), .null, .null]) := by
  have z := hR.tr (i := y) hy
  rw [e] at z
  exact z
theorem RH.tr3 (hR : RH G hp A M h) (hy : y < 6) (e : M.2.1 54 y = 3) : h (A.1 16 y) = some (oB 9 [.null, .null, .ref (A.1 17 y), .null]) := by
  have z := hR.tr (i := y) hy
  rw [e] at z
  exact z
theorem RH.tr4 (hR : RH G hp A M h) (hy : y < 6) (e : M.2.1 54 y = 4) : h (A.1 16 y) = some (oB 9 [.null, .null, .null, .ref (A.1 17 y)]) := by
  have z := hR.tr (i := y) hy
  rw [e] at z
  exact z
theorem RH.row3 (hR : RH G hp A M h) (hy : y < 6) (e : M.2.1 54 y = 3) : h (A.1 17 y) = some (aJ (nx (M.2.1 56 y)) (fun q => if q < nx (M.2.1 56 y) then M.2.2 57 (20 * y + q) else 0)) := by
  have z := hR.rw (i := y) ⟨hy, Or.inl e⟩
  rw [if_pos e] at z
  exact z
theorem RH.row4 (hR : RH G hp A M h) (hy : y < 6) (e : M.2.1 54 y = 4) : h (A.1 17 y) = some (aZ (nx (M.2.1 56 y)) (fun q => if q < nx (M.2.1 56 y) then (if M.2.2 57 (20 * y + q) = 0 then 0 else 1) else 0)) := by
  have z := hR.rw (i := y) ⟨hy, Or.inr e⟩
  rw [if_neg (by rw [e]; decide)] at z
  exact z
end RA29
def t54 (M : MS) (y : Nat) : Prop := M.2.1 54 y = 0 ∨ M.2.1 54 y = 1 ∨ M.2.1 54 y = 2 ∨ M.2.1 54 y = 3 ∨ M.2.1 54 y = 4
section K29
variable (l : Launch) (G : WG) {hp h : Hp} {A : AD} {M : MS}
theorem c_refuse (v : Int32) (hR : RH G hp A M h) : SpV l G mX11_refuse [.ref (A.1 0 0), .int v] h (fun r h' => r = .int (-1) ∧ RH G hp A (sS M 58 v) h') := by
  refine Sp.intro (lv := [_, _]) (by decide) rfl (Nat.le_of_ble_eq_true rfl) ?_
  refine wp_widen (rc' := 0) (rs' := 0) (Nat.le_refl _) (Nat.le_refl _) ?_
  refine wp_aload_n (pc := 0) dX11_refuse_0 rfl rfl ?_
  refine wp_iload_n (pc := 1) dX11_refuse_1 rfl rfl ?_
  refine wp_putC (pc := 2) dX11_refuse_2 fl_X11_67_12 hR.bd (Or.inl rfl) (Nat.le_of_ble_eq_true rfl) rfl rfl rfl (fun h hq1 hq2 => ?_)
  have hR := hR.k0 (M' := sS (M) 58 (v)) rfl rfl rfl rfl rfl rfl hq1 hq2
  refine wp_iconst (pc := 5) (v := (-1)) dX11_refuse_5 (by decide) ?_
  exact wp_iret (pc := 6) dX11_refuse_6 rfl ⟨_, rfl, rfl, hR⟩
theorem c_isEmpty {y : Nat} (hR : RH G hp A M h) (hy : y < 6) (h54 : t54 M y) : SpP l G mX8_isEmpty [.ref (A.1 16 y)] h (.int (bi (decide (M.2.1 54 y = 0)))) := by
  refine Sp.intro (lv := [_]) (by decide) rfl (Nat.le_of_ble_eq_true rfl) ?_
  refine wp_widen (rc' := 0) (rs' := 0) (Nat.le_refl _) (Nat.le_refl _) ?_
  rcases h54 with e | e | e | e | e
  · refine wp_aload_n (pc := 0) dX8_isEmpty_0 rfl rfl ?_
    refine wp_get (pc := 1) dX8_isEmpty_1 fl_X8_7_9 (hR.tr0 hy e) rfl ?_
    refine wp_ifnonnullN (pc := 4) dX8_isEmpty_4 ?_
    refine wp_aload_n (pc := 7) dX8_isEmpty_7 rfl rfl ?_
    refine wp_get (pc := 8) dX8_isEmpty_8 fl_X8_13_9 (hR.tr0 hy e) rfl ?_
    refine wp_ifnonnullN (pc := 11) dX8_isEmpty_11 ?_
    refine wp_aload_n (pc := 14) dX8_isEmpty_14 rfl rfl ?_
    refine wp_get (pc := 15) dX8_isEmpty_15 fl_X8_17_9 (hR.tr0 hy e) rfl ?_
    refine wp_ifnonnullN (pc := 18) dX8_isEmpty_18 ?_
    refine wp_aload_n (pc := 21) dX8_isEmpty_21 rfl rfl ?_
    refine wp_get (pc := 22) dX8_isEmpty_22 fl_X8_21_9 (hR.tr0 hy e) rfl ?_
    refine wp_ifnonnullN (pc := 25) dX8_isEmpty_25 ?_
    refine wp_iconst (pc := 28) (v := 1) dX8_isEmpty_28 (by decide) ?_
    refine wp_goto (pc := 29) (tgt := 33) dX8_isEmpty_29 (by decide) ?_
    exact wp_zret (pc := 33) dX8_isEmpty_33 rfl (by decide) ⟨by rw [e]; rfl, rfl⟩
  · refine wp_aload_n (pc := 0) dX8_isEmpty_0 rfl rfl ?_
    refine wp_get (pc := 1) dX8_isEmpty_1 fl_X8_7_9 (hR.tr1 hy e) rfl ?_
    refine wp_ifnonnullR (pc := 4) (tgt := 32) dX8_isEmpty_4 (by decide) ?_
    refine wp_iconst (pc := 32) (v := 0) dX8_isEmpty_32 (by decide) ?_
    exact wp_zret (pc := 33) dX8_isEmpty_33 rfl (by decide) ⟨by rw [e]; rfl, rfl⟩
  · refine wp_aload_n (pc := 0) dX8_isEmpty_0 rfl rfl ?_
    refine wp_get (pc := 1) dX8_isEmpty_1 fl_X8_7_9 (hR.tr2 hy e) rfl ?_
    refine wp_ifnonnullN (pc := 4) dX8_isEmpty_4 ?_
    refine wp_aload_n (pc := 7) dX8_isEmpty_7 rfl rfl ?_
    refine wp_get (pc := 8) dX8_isEmpty_8 fl_X8_13_9 (hR.tr2 hy e) rfl ?_
    refine wp_ifnonnullR (pc := 11) (tgt := 32) dX8_isEmpty_11 (by decide) ?_
    refine wp_iconst (pc := 32) (v := 0) dX8_isEmpty_32 (by decide) ?_
    exact wp_zret (pc := 33) dX8_isEmpty_33 rfl (by decide) ⟨by rw [e]; rfl, rfl⟩
  · refine wp_aload_n (pc := 0) dX8_isEmpty_0 rfl rfl ?_
    refine wp_get (pc := 1) dX8_isEmpty_1 fl_X8_7_9 (hR.tr3 hy e) rfl ?_
    refine wp_ifnonnullN (pc := 4) dX8_isEmpty_4 ?_
    refine wp_aload_n (pc := 7) dX8_isEmpty_7 rfl rfl ?_
    refine wp_get (pc := 8) dX8_isEmpty_8 fl_X8_13_9 (hR.tr3 hy e) rfl ?_
    refine wp_ifnonnullN (pc := 11) dX8_isEmpty_11 ?_
    refine wp_aload_n (pc := 14) dX8_isEmpty_14 rfl rfl ?_
    refine wp_get (pc := 15) dX8_isEmpty_15 fl_X8_17_9 (hR.tr3 hy e) rfl ?_
    refine wp_ifnonnullR (pc := 18) (tgt := 32) dX8_isEmpty_18 (by decide) ?_
    refine wp_iconst (pc := 32) (v := 0) dX8_isEmpty_32 (by decide) ?_
    exact wp_zret (pc := 33) dX8_isEmpty_33 rfl (by decide) ⟨by rw [e]; rfl, rfl⟩
  · refine wp_aload_n (pc := 0) dX8_isEmpty_0 rfl rfl ?_
    refine wp_get (pc := 1) dX8_isEmpty_1 fl_X8_7_9 (hR.tr4 hy e) rfl ?_
    refine wp_ifnonnullN (pc := 4) dX8_isEmpty_4 ?_
    refine wp_aload_n (pc := 7) dX8_isEmpty_7 rfl rfl ?_
    refine wp_get (pc := 8) dX8_isEmpty_8 fl_X8_13_9 (hR.tr4 hy e) rfl ?_
    refine wp_ifnonnullN (pc := 11) dX8_isEmpty_11 ?_
    refine wp_aload_n (pc := 14) dX8_isEmpty_14 rfl rfl ?_
    refine wp_get (pc := 15) dX8_isEmpty_15 fl_X8_17_9 (hR.tr4 hy e) rfl ?_
    refine wp_ifnonnullN (pc := 18) dX8_isEmpty_18 ?_
    refine wp_aload_n (pc := 21) dX8_isEmpty_21 rfl rfl ?_
    refine wp_get (pc := 22) dX8_isEmpty_22 fl_X8_21_9 (hR.tr4 hy e) rfl ?_
    refine wp_ifnonnullR (pc := 25) (tgt := 32) dX8_isEmpty_25 (by decide) ?_
    refine wp_iconst (pc := 32) (v := 0) dX8_isEmpty_32 (by decide) ?_
    exact wp_zret (pc := 33) dX8_isEmpty_33 rfl (by decide) ⟨by rw [e]; rfl, rfl⟩
theorem c_refuseSort {y : Nat} (hR : RH G hp A M h) (hy : y < 6) (h54 : t54 M y) : SpV l G mX11_refuseSort [.ref (A.1 0 0), .ref (A.1 16 y)] h (fun r h' => r = .int (-1) ∧ RH G hp A (sS M 58 (if M.2.1 54 y = 0 then 10 else 11)) h') := by
  refine Sp.intro (lv := [_, _]) (by decide) rfl (Nat.le_of_ble_eq_true rfl) ?_
  refine wp_widen (rc' := 0) (rs' := 0) (Nat.le_refl _) (Nat.le_refl _) ?_
  refine wp_aload_n (pc := 0) dX11_refuseSort_0 rfl rfl ?_
  refine wp_aload_n (pc := 1) dX11_refuseSort_1 rfl rfl ?_
  refine wc_VP (pc := 2) (μ2 := mX8_isEmpty) (rc := 0) (rs := 0) [] dX11_refuseSort_2 rfl (hR.tr hy) rfl cv_X11_511_9 rfl ⟨(Nat.le_of_ble_eq_true rfl), (Nat.le_of_ble_eq_true rfl)⟩ (Nat.le_of_ble_eq_true rfl) (c_isEmpty l G hR hy h54) ?_
  refine wp_ifB_eq (pc := 5) (tgt := 13) dX11_refuseSort_5 (by decide) (fun c5 => ?_) (fun c5 => ?_)
  · skip
    refine wp_bipush (pc := 13) (v := 11) dX11_refuseSort_13 (by decide) ?_
    refine wc_VV (pc := 15) (μ2 := mX11_refuse) (rc := 0) (rs := 0) [_] dX11_refuseSort_15 rfl hR.bd rfl cv_X11_328_12 rfl ⟨(Nat.le_of_ble_eq_true rfl), (Nat.le_of_ble_eq_true rfl)⟩ (Nat.le_of_ble_eq_true rfl) (c_refuse l G _ hR) (fun r h q => ?_)
    obtain ⟨rfl, hR⟩ := q
    exact wp_iret (pc := 18) dX11_refuseSort_18 rfl ⟨_, rfl, rfl, by rw [if_neg (of_decide_eq_false c5)]; exact hR⟩
  · skip
    refine wp_bipush (pc := 8) (v := 10) dX11_refuseSort_8 (by decide) ?_
    refine wp_goto (pc := 10) (tgt := 15) dX11_refuseSort_10 (by decide) ?_
    refine wc_VV (pc := 15) (μ2 := mX11_refuse) (rc := 0) (rs := 0) [_] dX11_refuseSort_15 rfl hR.bd rfl cv_X11_328_12 rfl ⟨(Nat.le_of_ble_eq_true rfl), (Nat.le_of_ble_eq_true rfl)⟩ (Nat.le_of_ble_eq_true rfl) (c_refuse l G _ hR) (fun r h q => ?_)
    obtain ⟨rfl, hR⟩ := q
    exact wp_iret (pc := 18) dX11_refuseSort_18 rfl ⟨_, rfl, rfl, by rw [if_pos (of_decide_eq_true c5)]; exact hR⟩
theorem isUn_k {κ o : Int32} (ho : o = 2 ∨ o = 3 ∨ o = 4) : isUn κ o = decide (κ = o) := by
  unfold isUn
  by_cases h : κ = o
  · rw [if_neg (by rcases ho with rfl | rfl | rfl <;> decide), if_pos h, decide_eq_true h]
  · rw [if_neg (by rcases ho with rfl | rfl | rfl <;> decide), if_neg h, decide_eq_false h]
    by_cases h2 : κ = 2
    · rw [if_pos h2, if_neg (by rcases ho with rfl | rfl | rfl <;> decide)]
    · rw [if_neg h2]
theorem c_isOfKind {t : Nat} (k : Int32) (hk : k = 0 ∨ k = 1 ∨ k = 2 ∨ k = 3 ∨ k = 4) (hR : RH G hp A M h) (ht : t < nx (M.1 11)) : SpP l G mX11_isOfKind [.ref (A.1 7 t), .int k] h (.int (bi (isUn (M.2.1 12 t) k))) := by
  refine Sp.intro (lv := [_, _]) (by decide) rfl (Nat.le_of_ble_eq_true rfl) ?_
  refine wp_widen (rc' := 0) (rs' := 0) (Nat.le_refl _) (Nat.le_refl _) ?_
  refine wp_iload_n (pc := 0) dX11_isOfKind_0 rfl rfl ?_
  refine wp_tsw_1_4 (pc := 1) dX11_isOfKind_1 (t0 := 32) (t1 := 37) (t2 := 42) (t3 := 47) (td := 52) (by decide) (by decide) (by decide) (by decide) (by decide) (fun c1 => ?_) (fun c1 => ?_) (fun c1 => ?_) (fun c1 => ?_) (fun c1 => ?_)
  · subst c1
    refine wp_aload_n (pc := 32) dX11_isOfKind_32 rfl rfl ?_
    refine wp_instS (pc := 33) dX11_isOfKind_33 (hR.th ht) is_390 ?_
    exact wp_zret (pc := 36) dX11_isOfKind_36 rfl (bi01 _) ⟨rfl, rfl⟩
  · subst c1
    refine wp_aload_n (pc := 37) dX11_isOfKind_37 rfl rfl ?_
    refine wp_instT 2 (pc := 38) dX11_isOfKind_38 (hR.th ht) it_X11_277 (fun c38 => ?_) (fun c38 => ?_)
    · skip
      exact wp_zret (pc := 41) dX11_isOfKind_41 rfl (by decide) ⟨by rw [isUn_k (by decide), decide_eq_true c38]; rfl, rfl⟩
    · skip
      exact wp_zret (pc := 41) dX11_isOfKind_41 rfl (by decide) ⟨by rw [isUn_k (by decide), decide_eq_false c38]; rfl, rfl⟩
  · subst c1
    refine wp_aload_n (pc := 42) dX11_isOfKind_42 rfl rfl ?_
    refine wp_instT 3 (pc := 43) dX11_isOfKind_43 (hR.th ht) it_X11_203 (fun c43 => ?_) (fun c43 => ?_)
    · skip
      exact wp_zret (pc := 46) dX11_isOfKind_46 rfl (by decide) ⟨by rw [isUn_k (by decide), decide_eq_true c43]; rfl, rfl⟩
    · skip
      exact wp_zret (pc := 46) dX11_isOfKind_46 rfl (by decide) ⟨by rw [isUn_k (by decide), decide_eq_false c43]; rfl, rfl⟩
  · subst c1
    refine wp_aload_n (pc := 47) dX11_isOfKind_47 rfl rfl ?_
    refine wp_instT 4 (pc := 48) dX11_isOfKind_48 (hR.th ht) it_X11_285 (fun c48 => ?_) (fun c48 => ?_)
    · skip
      exact wp_zret (pc := 51) dX11_isOfKind_51 rfl (by decide) ⟨by rw [isUn_k (by decide), decide_eq_true c48]; rfl, rfl⟩
    · skip
      exact wp_zret (pc := 51) dX11_isOfKind_51 rfl (by decide) ⟨by rw [isUn_k (by decide), decide_eq_false c48]; rfl, rfl⟩
  · have k0 : k = 0 := hk.resolve_right (fun z => by rcases z with rfl | rfl | rfl | rfl <;> revert c1 <;> decide)
    subst k0
    refine wp_aload_n (pc := 52) dX11_isOfKind_52 rfl rfl ?_
    refine wp_ifnullR (pc := 53) dX11_isOfKind_53 ?_
    refine wp_iconst (pc := 56) (v := 1) dX11_isOfKind_56 (by decide) ?_
    refine wp_goto (pc := 57) (tgt := 61) dX11_isOfKind_57 (by decide) ?_
    exact wp_zret (pc := 61) dX11_isOfKind_61 rfl (by decide) ⟨rfl, rfl⟩
def lakF (M : MS) (y : Nat) (k : Int32) : Int32 × MS := if M.2.1 54 y = 0 then (-1, sS M 58 10) else if M.2.1 54 y = 1 then (if isUn (M.2.1 12 (nx (M.2.1 55 y))) k = false then (-1, sS M 58 11) else (M.2.1 13 (nx (M.2.1 55 y)), M)) else (-1, sS M 58 11)
def tolF (M : MS) (y : Nat) (b : Int32) : Int32 × MS := if M.2.1 54 y = 0 then (-1, sS M 58 10) else if M.2.1 54 y = 2 then (if (if 4 ≤ M.2.1 36 (nx (M.2.1 55 y)) then (0 : Int32) else 1) = b then (M.2.1 39 (nx (M.2.1 55 y)), M) else (-1, sS M 58 11)) else (-1, sS M 58 11)
def arwF (M : MS) (y : Nat) (what n : Int32) : Int32 × MS := if M.2.1 54 y = 0 then (-1, sS M 58 10) else if M.2.1 54 y = what then (if isIx n (nx (M.2.1 56 y)) = false then (-1, sS M 58 12) else ((M.2.2 57 (20 * y + nx n)).toInt32, M)) else (-1, sS M 58 11)
def socF (M : MS) (y : Nat) (n : Int32) : Int32 × MS := if M.2.1 54 y = 0 then (-1, sS M 58 10) else if M.2.1 54 y = 3 then (if n < 0 then (-1, sS M 58 12) else if M.2.1 56 y < 1 + n then (-1, sS M 58 12) else if 2 * n ≤ 5 then ((cpS M y (nx n)).toInt32, M) else (-1, sS M 58 12)) else (-1, sS M 58 11)
def lasF (M : MS) (y : Nat) : Int32 × MS := if M.2.1 54 y = 0 then (0, M) else if M.2.1 54 y = 1 then (if isUn (M.2.1 12 (nx (M.2.1 55 y))) 1 = false then (-1, sS M 58 14) else (M.2.1 13 (nx (M.2.1 55 y)), M)) else (-1, sS M 58 14)
theorem c_lak {y : Nat} (kd : Int32) (hkd : kd = 0 ∨ kd = 1 ∨ kd = 2 ∨ kd = 3 ∨ kd = 4) (hR : RH G hp A M h) (hy : y < 6) (h54 : t54 M y) (ht1 : M.2.1 54 y = 1 → nx (M.2.1 55 y) < nx (M.1 11)) (ht2 : M.2.1 54 y = 2 → nx (M.2.1 55 y) < nx (M.1 35))  : SpV l G mX11_lengthAsKind (.ref (A.1 0 0) :: .ref (A.1 16 y) :: [.int kd]) h (fun r h' => r = .int (lakF M y kd).1 ∧ RH G hp A (lakF M y kd).2 h') := by
  refine Sp.intro (lv := [_, _, _, _]) (by decide) rfl (Nat.le_of_ble_eq_true rfl) ?_
  refine wp_widen (rc' := 0) (rs' := 0) (Nat.le_refl _) (Nat.le_refl _) ?_
  have h549 := h54
  rcases h54 with e | e | e | e | e
  · refine wp_aload_n (pc := 0) dX11_lengthAsKind_0 rfl rfl ?_
    refine wp_get (pc := 1) dX11_lengthAsKind_1 fl_X11_334_9 (hR.tr0 hy e) rfl ?_
    refine wp_astore_nN (pc := 4) (lv' := [_, _, _, _]) dX11_lengthAsKind_4 rfl (Nat.le_of_ble_eq_true rfl) rfl rfl ?_
    refine wp_aload_nN (pc := 5) dX11_lengthAsKind_5 rfl rfl ?_
    refine wp_ifnullN (pc := 6) (tgt := 17) dX11_lengthAsKind_6 (by decide) ?_
    refine wp_aload_n (pc := 17) dX11_lengthAsKind_17 rfl rfl ?_
    refine wp_aload_n (pc := 18) dX11_lengthAsKind_18 rfl rfl ?_
    refine wc_VV (pc := 19) (μ2 := mX11_refuseSort) (rc := 0) (rs := 0) [_] dX11_lengthAsKind_19 rfl hR.bd rfl cv_X11_517_12 rfl ⟨(Nat.le_of_ble_eq_true rfl), (Nat.le_of_ble_eq_true rfl)⟩ (Nat.le_of_ble_eq_true rfl) (c_refuseSort l G hR hy h549) (fun r h q => ?_)
    obtain ⟨rfl, hR⟩ := q
    refine wp_goto (pc := 22) (tgt := 29) dX11_lengthAsKind_22 (by decide) ?_
    exact wp_iret (pc := 29) dX11_lengthAsKind_29 rfl ⟨_, rfl, by simp only [lakF, e, (by decide : ((0 : Int32) = 1) = False), (by decide : ((0 : Int32) = 2) = False), (by decide : ((0 : Int32) = 3) = False), (by decide : ((0 : Int32) = 4) = False), if_true, if_false, Bool.true_eq_false, Bool.false_eq_true, reduceIte, reduceCtorEq, Bool.not_true, Bool.not_false, true_and, and_true, and_false, false_and, or_true, true_or, or_false, false_or, not_true_eq_false, not_false_eq_true] <;> rfl, by simp only [lakF, e, (by decide : ((0 : Int32) = 1) = False), (by decide : ((0 : Int32) = 2) = False), (by decide : ((0 : Int32) = 3) = False), (by decide : ((0 : Int32) = 4) = False), if_true, if_false, Bool.true_eq_false, Bool.false_eq_true, reduceIte, reduceCtorEq, Bool.not_true, Bool.not_false, true_and, and_true, and_false, false_and, or_true, true_or, or_false, false_or, not_true_eq_false, not_false_eq_true] <;> first | exact hR | (simp only [e, (by decide : ((0 : Int32) = 1) = False), (by decide : ((0 : Int32) = 2) = False), (by decide : ((0 : Int32) = 3) = False), (by decide : ((0 : Int32) = 4) = False), if_true, if_false, Bool.true_eq_false, Bool.false_eq_true, reduceIte, reduceCtorEq, Bool.not_true, Bool.not_false, true_and, and_true, and_false, false_and, or_true, true_or, or_false, false_or, not_true_eq_false, not_false_eq_true] at hR; exact hR)⟩
  · refine wp_aload_n (pc := 0) dX11_lengthAsKind_0 rfl rfl ?_
    refine wp_get (pc := 1) dX11_lengthAsKind_1 fl_X11_334_9 (hR.tr1 hy e) rfl ?_
    refine wp_astore_n (pc := 4) (lv' := [_, _, _, _]) dX11_lengthAsKind_4 rfl (Nat.le_of_ble_eq_true rfl) rfl rfl ?_
    refine wp_aload_n (pc := 5) dX11_lengthAsKind_5 rfl rfl ?_
    refine wp_ifnullR (pc := 6) dX11_lengthAsKind_6 ?_
    refine wp_aload_n (pc := 9) dX11_lengthAsKind_9 rfl rfl ?_
    refine wp_iload_n (pc := 10) dX11_lengthAsKind_10 rfl rfl ?_
    refine wc_SP (pc := 11) (μ2 := mX11_isOfKind) (rc := 0) (rs := 0) [_, _] dX11_lengthAsKind_11 rfl cs_X11_514 rfl ⟨(Nat.le_of_ble_eq_true rfl), (Nat.le_of_ble_eq_true rfl)⟩ (Nat.le_of_ble_eq_true rfl) (c_isOfKind l G _ hkd hR (ht1 e)) ?_
    refine wp_ifB_ne (pc := 14) (tgt := 25) dX11_lengthAsKind_14 (by decide) (fun c14 => ?_) (fun c14 => ?_)
    · skip
      refine wp_aload_n (pc := 25) dX11_lengthAsKind_25 rfl rfl ?_
      refine wp_getT (pc := 26) dX11_lengthAsKind_26 ft_X11_271 (hR.th (ht1 e)) rfl ?_
      exact wp_iret (pc := 29) dX11_lengthAsKind_29 rfl ⟨_, rfl, by simp only [lakF, e, (by decide : ((1 : Int32) = 0) = False), (by decide : ((1 : Int32) = 2) = False), (by decide : ((1 : Int32) = 3) = False), (by decide : ((1 : Int32) = 4) = False), c14, if_true, if_false, Bool.true_eq_false, Bool.false_eq_true, reduceIte, reduceCtorEq, Bool.not_true, Bool.not_false, true_and, and_true, and_false, false_and, or_true, true_or, or_false, false_or, not_true_eq_false, not_false_eq_true] <;> rfl, by simp only [lakF, e, (by decide : ((1 : Int32) = 0) = False), (by decide : ((1 : Int32) = 2) = False), (by decide : ((1 : Int32) = 3) = False), (by decide : ((1 : Int32) = 4) = False), c14, if_true, if_false, Bool.true_eq_false, Bool.false_eq_true, reduceIte, reduceCtorEq, Bool.not_true, Bool.not_false, true_and, and_true, and_false, false_and, or_true, true_or, or_false, false_or, not_true_eq_false, not_false_eq_true] <;> first | exact hR | (simp only [e, (by decide : ((1 : Int32) = 0) = False), (by decide : ((1 : Int32) = 2) = False), (by decide : ((1 : Int32) = 3) = False), (by decide : ((1 : Int32) = 4) = False), if_true, if_false, Bool.true_eq_false, Bool.false_eq_true, reduceIte, reduceCtorEq, Bool.not_true, Bool.not_false, true_and, and_true, and_false, false_and, or_true, true_or, or_false, false_or, not_true_eq_false, not_false_eq_true] at hR; exact hR)⟩
    · skip
      refine wp_aload_n (pc := 17) dX11_lengthAsKind_17 rfl rfl ?_
      refine wp_aload_n (pc := 18) dX11_lengthAsKind_18 rfl rfl ?_
      refine wc_VV (pc := 19) (μ2 := mX11_refuseSort) (rc := 0) (rs := 0) [_] dX11_lengthAsKind_19 rfl hR.bd rfl cv_X11_517_12 rfl ⟨(Nat.le_of_ble_eq_true rfl), (Nat.le_of_ble_eq_true rfl)⟩ (Nat.le_of_ble_eq_true rfl) (c_refuseSort l G hR hy h549) (fun r h q => ?_)
      obtain ⟨rfl, hR⟩ := q
      refine wp_goto (pc := 22) (tgt := 29) dX11_lengthAsKind_22 (by decide) ?_
      exact wp_iret (pc := 29) dX11_lengthAsKind_29 rfl ⟨_, rfl, by simp only [lakF, e, (by decide : ((1 : Int32) = 0) = False), (by decide : ((1 : Int32) = 2) = False), (by decide : ((1 : Int32) = 3) = False), (by decide : ((1 : Int32) = 4) = False), c14, if_true, if_false, Bool.true_eq_false, Bool.false_eq_true, reduceIte, reduceCtorEq, Bool.not_true, Bool.not_false, true_and, and_true, and_false, false_and, or_true, true_or, or_false, false_or, not_true_eq_false, not_false_eq_true] <;> rfl, by simp only [lakF, e, (by decide : ((1 : Int32) = 0) = False), (by decide : ((1 : Int32) = 2) = False), (by decide : ((1 : Int32) = 3) = False), (by decide : ((1 : Int32) = 4) = False), c14, if_true, if_false, Bool.true_eq_false, Bool.false_eq_true, reduceIte, reduceCtorEq, Bool.not_true, Bool.not_false, true_and, and_true, and_false, false_and, or_true, true_or, or_false, false_or, not_true_eq_false, not_false_eq_true] <;> first | exact hR | (simp only [e, (by decide : ((1 : Int32) = 0) = False), (by decide : ((1 : Int32) = 2) = False), (by decide : ((1 : Int32) = 3) = False), (by decide : ((1 : Int32) = 4) = False), if_true, if_false, Bool.true_eq_false, Bool.false_eq_true, reduceIte, reduceCtorEq, Bool.not_true, Bool.not_false, true_and, and_true, and_false, false_and, or_true, true_or, or_false, false_or, not_true_eq_false, not_false_eq_true] at hR; exact hR)⟩
  · refine wp_aload_n (pc := 0) dX11_lengthAsKind_0 rfl rfl ?_
    refine wp_get (pc := 1) dX11_lengthAsKind_1 fl_X11_334_9 (hR.tr2 hy e) rfl ?_
    refine wp_astore_nN (pc := 4) (lv' := [_, _, _, _]) dX11_lengthAsKind_4 rfl (Nat.le_of_ble_eq_true rfl) rfl rfl ?_
    refine wp_aload_nN (pc := 5) dX11_lengthAsKind_5 rfl rfl ?_
    refine wp_ifnullN (pc := 6) (tgt := 17) dX11_lengthAsKind_6 (by decide) ?_
    refine wp_aload_n (pc := 17) dX11_lengthAsKind_17 rfl rfl ?_
    refine wp_aload_n (pc := 18) dX11_lengthAsKind_18 rfl rfl ?_
    refine wc_VV (pc := 19) (μ2 := mX11_refuseSort) (rc := 0) (rs := 0) [_] dX11_lengthAsKind_19 rfl hR.bd rfl cv_X11_517_12 rfl ⟨(Nat.le_of_ble_eq_true rfl), (Nat.le_of_ble_eq_true rfl)⟩ (Nat.le_of_ble_eq_true rfl) (c_refuseSort l G hR hy h549) (fun r h q => ?_)
    obtain ⟨rfl, hR⟩ := q
    refine wp_goto (pc := 22) (tgt := 29) dX11_lengthAsKind_22 (by decide) ?_
    exact wp_iret (pc := 29) dX11_lengthAsKind_29 rfl ⟨_, rfl, by simp only [lakF, e, (by decide : ((2 : Int32) = 0) = False), (by decide : ((2 : Int32) = 1) = False), (by decide : ((2 : Int32) = 3) = False), (by decide : ((2 : Int32) = 4) = False), if_true, if_false, Bool.true_eq_false, Bool.false_eq_true, reduceIte, reduceCtorEq, Bool.not_true, Bool.not_false, true_and, and_true, and_false, false_and, or_true, true_or, or_false, false_or, not_true_eq_false, not_false_eq_true] <;> rfl, by simp only [lakF, e, (by decide : ((2 : Int32) = 0) = False), (by decide : ((2 : Int32) = 1) = False), (by decide : ((2 : Int32) = 3) = False), (by decide : ((2 : Int32) = 4) = False), if_true, if_false, Bool.true_eq_false, Bool.false_eq_true, reduceIte, reduceCtorEq, Bool.not_true, Bool.not_false, true_and, and_true, and_false, false_and, or_true, true_or, or_false, false_or, not_true_eq_false, not_false_eq_true] <;> first | exact hR | (simp only [e, (by decide : ((2 : Int32) = 0) = False), (by decide : ((2 : Int32) = 1) = False), (by decide : ((2 : Int32) = 3) = False), (by decide : ((2 : Int32) = 4) = False), if_true, if_false, Bool.true_eq_false, Bool.false_eq_true, reduceIte, reduceCtorEq, Bool.not_true, Bool.not_false, true_and, and_true, and_false, false_and, or_true, true_or, or_false, false_or, not_true_eq_false, not_false_eq_true] at hR; exact hR)⟩
  · refine wp_aload_n (pc := 0) dX11_lengthAsKind_0 rfl rfl ?_
    refine wp_get (pc := 1) dX11_lengthAsKind_1 fl_X11_334_9 (hR.tr3 hy e) rfl ?_
    refine wp_astore_nN (pc := 4) (lv' := [_, _, _, _]) dX11_lengthAsKind_4 rfl (Nat.le_of_ble_eq_true rfl) rfl rfl ?_
    refine wp_aload_nN (pc := 5) dX11_lengthAsKind_5 rfl rfl ?_
    refine wp_ifnullN (pc := 6) (tgt := 17) dX11_lengthAsKind_6 (by decide) ?_
    refine wp_aload_n (pc := 17) dX11_lengthAsKind_17 rfl rfl ?_
    refine wp_aload_n (pc := 18) dX11_lengthAsKind_18 rfl rfl ?_
    refine wc_VV (pc := 19) (μ2 := mX11_refuseSort) (rc := 0) (rs := 0) [_] dX11_lengthAsKind_19 rfl hR.bd rfl cv_X11_517_12 rfl ⟨(Nat.le_of_ble_eq_true rfl), (Nat.le_of_ble_eq_true rfl)⟩ (Nat.le_of_ble_eq_true rfl) (c_refuseSort l G hR hy h549) (fun r h q => ?_)
    obtain ⟨rfl, hR⟩ := q
    refine wp_goto (pc := 22) (tgt := 29) dX11_lengthAsKind_22 (by decide) ?_
    exact wp_iret (pc := 29) dX11_lengthAsKind_29 rfl ⟨_, rfl, by simp only [lakF, e, (by decide : ((3 : Int32) = 0) = False), (by decide : ((3 : Int32) = 1) = False), (by decide : ((3 : Int32) = 2) = False), (by decide : ((3 : Int32) = 4) = False), if_true, if_false, Bool.true_eq_false, Bool.false_eq_true, reduceIte, reduceCtorEq, Bool.not_true, Bool.not_false, true_and, and_true, and_false, false_and, or_true, true_or, or_false, false_or, not_true_eq_false, not_false_eq_true] <;> rfl, by simp only [lakF, e, (by decide : ((3 : Int32) = 0) = False), (by decide : ((3 : Int32) = 1) = False), (by decide : ((3 : Int32) = 2) = False), (by decide : ((3 : Int32) = 4) = False), if_true, if_false, Bool.true_eq_false, Bool.false_eq_true, reduceIte, reduceCtorEq, Bool.not_true, Bool.not_false, true_and, and_true, and_false, false_and, or_true, true_or, or_false, false_or, not_true_eq_false, not_false_eq_true] <;> first | exact hR | (simp only [e, (by decide : ((3 : Int32) = 0) = False), (by decide : ((3 : Int32) = 1) = False), (by decide : ((3 : Int32) = 2) = False), (by decide : ((3 : Int32) = 4) = False), if_true, if_false, Bool.true_eq_false, Bool.false_eq_true, reduceIte, reduceCtorEq, Bool.not_true, Bool.not_false, true_and, and_true, and_false, false_and, or_true, true_or, or_false, false_or, not_true_eq_false, not_false_eq_true] at hR; exact hR)⟩
  · refine wp_aload_n (pc := 0) dX11_lengthAsKind_0 rfl rfl ?_
    refine wp_get (pc := 1) dX11_lengthAsKind_1 fl_X11_334_9 (hR.tr4 hy e) rfl ?_
    refine wp_astore_nN (pc := 4) (lv' := [_, _, _, _]) dX11_lengthAsKind_4 rfl (Nat.le_of_ble_eq_true rfl) rfl rfl ?_
    refine wp_aload_nN (pc := 5) dX11_lengthAsKind_5 rfl rfl ?_
    refine wp_ifnullN (pc := 6) (tgt := 17) dX11_lengthAsKind_6 (by decide) ?_
    refine wp_aload_n (pc := 17) dX11_lengthAsKind_17 rfl rfl ?_
    refine wp_aload_n (pc := 18) dX11_lengthAsKind_18 rfl rfl ?_
    refine wc_VV (pc := 19) (μ2 := mX11_refuseSort) (rc := 0) (rs := 0) [_] dX11_lengthAsKind_19 rfl hR.bd rfl cv_X11_517_12 rfl ⟨(Nat.le_of_ble_eq_true rfl), (Nat.le_of_ble_eq_true rfl)⟩ (Nat.le_of_ble_eq_true rfl) (c_refuseSort l G hR hy h549) (fun r h q => ?_)
    obtain ⟨rfl, hR⟩ := q
    refine wp_goto (pc := 22) (tgt := 29) dX11_lengthAsKind_22 (by decide) ?_
    exact wp_iret (pc := 29) dX11_lengthAsKind_29 rfl ⟨_, rfl, by simp only [lakF, e, (by decide : ((4 : Int32) = 0) = False), (by decide : ((4 : Int32) = 1) = False), (by decide : ((4 : Int32) = 2) = False), (by decide : ((4 : Int32) = 3) = False), if_true, if_false, Bool.true_eq_false, Bool.false_eq_true, reduceIte, reduceCtorEq, Bool.not_true, Bool.not_false, true_and, and_true, and_false, false_and, or_true, true_or, or_false, false_or, not_true_eq_false, not_false_eq_true] <;> rfl, by simp only [lakF, e, (by decide : ((4 : Int32) = 0) = False), (by decide : ((4 : Int32) = 1) = False), (by decide : ((4 : Int32) = 2) = False), (by decide : ((4 : Int32) = 3) = False), if_true, if_false, Bool.true_eq_false, Bool.false_eq_true, reduceIte, reduceCtorEq, Bool.not_true, Bool.not_false, true_and, and_true, and_false, false_and, or_true, true_or, or_false, false_or, not_true_eq_false, not_false_eq_true] <;> first | exact hR | (simp only [e, (by decide : ((4 : Int32) = 0) = False), (by decide : ((4 : Int32) = 1) = False), (by decide : ((4 : Int32) = 2) = False), (by decide : ((4 : Int32) = 3) = False), if_true, if_false, Bool.true_eq_false, Bool.false_eq_true, reduceIte, reduceCtorEq, Bool.not_true, Bool.not_false, true_and, and_true, and_false, false_and, or_true, true_or, or_false, false_or, not_true_eq_false, not_false_eq_true] at hR; exact hR)⟩
theorem c_las {y : Nat}  (hR : RH G hp A M h) (hy : y < 6) (h54 : t54 M y) (ht1 : M.2.1 54 y = 1 → nx (M.2.1 55 y) < nx (M.1 11)) (ht2 : M.2.1 54 y = 2 → nx (M.2.1 55 y) < nx (M.1 35))  : SpV l G mX11_lengthLaidAmongShared (.ref (A.1 0 0) :: .ref (A.1 16 y) :: []) h (fun r h' => r = .int (lasF M y).1 ∧ RH G hp A (lasF M y).2 h') := by
  refine Sp.intro (lv := [_, _, _]) (by decide) rfl (Nat.le_of_ble_eq_true rfl) ?_
  refine wp_widen (rc' := 0) (rs' := 0) (Nat.le_refl _) (Nat.le_refl _) ?_
  have h549 := h54
  rcases h54 with e | e | e | e | e
  · refine wp_aload_n (pc := 0) dX11_lengthLaidAmongShared_0 rfl rfl ?_
    refine wc_VP (pc := 1) (μ2 := mX8_isEmpty) (rc := 0) (rs := 0) [] dX11_lengthLaidAmongShared_1 rfl (hR.tr0 hy e) rfl cv_X11_511_9 rfl ⟨(Nat.le_of_ble_eq_true rfl), (Nat.le_of_ble_eq_true rfl)⟩ (Nat.le_of_ble_eq_true rfl) (c_isEmpty l G hR hy h549) ?_
    refine wp_ifB_eq (pc := 4) (tgt := 9) dX11_lengthLaidAmongShared_4 (by decide) (fun z => absurd z (by rw [e]; decide)) (fun _ => ?_)
    refine wp_iconst (pc := 7) (v := 0) dX11_lengthLaidAmongShared_7 (by decide) ?_
    exact wp_iret (pc := 8) dX11_lengthLaidAmongShared_8 rfl ⟨_, rfl, by simp only [lasF, e, (by decide : ((0 : Int32) = 1) = False), (by decide : ((0 : Int32) = 2) = False), (by decide : ((0 : Int32) = 3) = False), (by decide : ((0 : Int32) = 4) = False), if_true, if_false, Bool.true_eq_false, Bool.false_eq_true, reduceIte, reduceCtorEq, Bool.not_true, Bool.not_false, true_and, and_true, and_false, false_and, or_true, true_or, or_false, false_or, not_true_eq_false, not_false_eq_true] <;> rfl, by simp only [lasF, e, (by decide : ((0 : Int32) = 1) = False), (by decide : ((0 : Int32) = 2) = False), (by decide : ((0 : Int32) = 3) = False), (by decide : ((0 : Int32) = 4) = False), if_true, if_false, Bool.true_eq_false, Bool.false_eq_true, reduceIte, reduceCtorEq, Bool.not_true, Bool.not_false, true_and, and_true, and_false, false_and, or_true, true_or, or_false, false_or, not_true_eq_false, not_false_eq_true] <;> first | exact hR | (simp only [e, (by decide : ((0 : Int32) = 1) = False), (by decide : ((0 : Int32) = 2) = False), (by decide : ((0 : Int32) = 3) = False), (by decide : ((0 : Int32) = 4) = False), if_true, if_false, Bool.true_eq_false, Bool.false_eq_true, reduceIte, reduceCtorEq, Bool.not_true, Bool.not_false, true_and, and_true, and_false, false_and, or_true, true_or, or_false, false_or, not_true_eq_false, not_false_eq_true] at hR; exact hR)⟩
  · refine wp_aload_n (pc := 0) dX11_lengthLaidAmongShared_0 rfl rfl ?_
    refine wc_VP (pc := 1) (μ2 := mX8_isEmpty) (rc := 0) (rs := 0) [] dX11_lengthLaidAmongShared_1 rfl (hR.tr1 hy e) rfl cv_X11_511_9 rfl ⟨(Nat.le_of_ble_eq_true rfl), (Nat.le_of_ble_eq_true rfl)⟩ (Nat.le_of_ble_eq_true rfl) (c_isEmpty l G hR hy h549) ?_
    refine wp_ifB_eq (pc := 4) (tgt := 9) dX11_lengthLaidAmongShared_4 (by decide) (fun _ => ?_) (fun z => absurd z (by rw [e]; decide))
    refine wp_aload_n (pc := 9) dX11_lengthLaidAmongShared_9 rfl rfl ?_
    refine wp_get (pc := 10) dX11_lengthLaidAmongShared_10 fl_X11_334_9 (hR.tr1 hy e) rfl ?_
    refine wp_astore_n (pc := 13) (lv' := [_, _, _]) dX11_lengthLaidAmongShared_13 rfl (Nat.le_of_ble_eq_true rfl) rfl rfl ?_
    refine wp_aload_n (pc := 14) dX11_lengthLaidAmongShared_14 rfl rfl ?_
    refine wp_instS (pc := 15) dX11_lengthLaidAmongShared_15 (hR.th (ht1 e)) is_390 ?_
    refine wp_ifB_eq (pc := 18) (tgt := 28) dX11_lengthLaidAmongShared_18 (by decide) (fun c18 => ?_) (fun c18 => ?_)
    · skip
      refine wp_aload_n (pc := 28) dX11_lengthLaidAmongShared_28 rfl rfl ?_
      refine wp_bipush (pc := 29) (v := 14) dX11_lengthLaidAmongShared_29 (by decide) ?_
      refine wc_VV (pc := 31) (μ2 := mX11_refuse) (rc := 0) (rs := 0) [_] dX11_lengthLaidAmongShared_31 rfl hR.bd rfl cv_X11_328_12 rfl ⟨(Nat.le_of_ble_eq_true rfl), (Nat.le_of_ble_eq_true rfl)⟩ (Nat.le_of_ble_eq_true rfl) (c_refuse l G _ hR) (fun r h q => ?_)
      obtain ⟨rfl, hR⟩ := q
      exact wp_iret (pc := 34) dX11_lengthLaidAmongShared_34 rfl ⟨_, rfl, by simp only [lasF, e, (by decide : ((1 : Int32) = 0) = False), (by decide : ((1 : Int32) = 2) = False), (by decide : ((1 : Int32) = 3) = False), (by decide : ((1 : Int32) = 4) = False), c18, if_true, if_false, Bool.true_eq_false, Bool.false_eq_true, reduceIte, reduceCtorEq, Bool.not_true, Bool.not_false, true_and, and_true, and_false, false_and, or_true, true_or, or_false, false_or, not_true_eq_false, not_false_eq_true] <;> rfl, by simp only [lasF, e, (by decide : ((1 : Int32) = 0) = False), (by decide : ((1 : Int32) = 2) = False), (by decide : ((1 : Int32) = 3) = False), (by decide : ((1 : Int32) = 4) = False), c18, if_true, if_false, Bool.true_eq_false, Bool.false_eq_true, reduceIte, reduceCtorEq, Bool.not_true, Bool.not_false, true_and, and_true, and_false, false_and, or_true, true_or, or_false, false_or, not_true_eq_false, not_false_eq_true] <;> first | exact hR | (simp only [e, (by decide : ((1 : Int32) = 0) = False), (by decide : ((1 : Int32) = 2) = False), (by decide : ((1 : Int32) = 3) = False), (by decide : ((1 : Int32) = 4) = False), if_true, if_false, Bool.true_eq_false, Bool.false_eq_true, reduceIte, reduceCtorEq, Bool.not_true, Bool.not_false, true_and, and_true, and_false, false_and, or_true, true_or, or_false, false_or, not_true_eq_false, not_false_eq_true] at hR; exact hR)⟩
    · skip
      refine wp_aload_n (pc := 21) dX11_lengthLaidAmongShared_21 rfl rfl ?_
      refine wp_getT (pc := 22) dX11_lengthLaidAmongShared_22 ft_X11_271 (hR.th (ht1 e)) rfl ?_
      refine wp_goto (pc := 25) (tgt := 34) dX11_lengthLaidAmongShared_25 (by decide) ?_
      exact wp_iret (pc := 34) dX11_lengthLaidAmongShared_34 rfl ⟨_, rfl, by simp only [lasF, e, (by decide : ((1 : Int32) = 0) = False), (by decide : ((1 : Int32) = 2) = False), (by decide : ((1 : Int32) = 3) = False), (by decide : ((1 : Int32) = 4) = False), c18, if_true, if_false, Bool.true_eq_false, Bool.false_eq_true, reduceIte, reduceCtorEq, Bool.not_true, Bool.not_false, true_and, and_true, and_false, false_and, or_true, true_or, or_false, false_or, not_true_eq_false, not_false_eq_true] <;> rfl, by simp only [lasF, e, (by decide : ((1 : Int32) = 0) = False), (by decide : ((1 : Int32) = 2) = False), (by decide : ((1 : Int32) = 3) = False), (by decide : ((1 : Int32) = 4) = False), c18, if_true, if_false, Bool.true_eq_false, Bool.false_eq_true, reduceIte, reduceCtorEq, Bool.not_true, Bool.not_false, true_and, and_true, and_false, false_and, or_true, true_or, or_false, false_or, not_true_eq_false, not_false_eq_true] <;> first | exact hR | (simp only [e, (by decide : ((1 : Int32) = 0) = False), (by decide : ((1 : Int32) = 2) = False), (by decide : ((1 : Int32) = 3) = False), (by decide : ((1 : Int32) = 4) = False), if_true, if_false, Bool.true_eq_false, Bool.false_eq_true, reduceIte, reduceCtorEq, Bool.not_true, Bool.not_false, true_and, and_true, and_false, false_and, or_true, true_or, or_false, false_or, not_true_eq_false, not_false_eq_true] at hR; exact hR)⟩
  · refine wp_aload_n (pc := 0) dX11_lengthLaidAmongShared_0 rfl rfl ?_
    refine wc_VP (pc := 1) (μ2 := mX8_isEmpty) (rc := 0) (rs := 0) [] dX11_lengthLaidAmongShared_1 rfl (hR.tr2 hy e) rfl cv_X11_511_9 rfl ⟨(Nat.le_of_ble_eq_true rfl), (Nat.le_of_ble_eq_true rfl)⟩ (Nat.le_of_ble_eq_true rfl) (c_isEmpty l G hR hy h549) ?_
    refine wp_ifB_eq (pc := 4) (tgt := 9) dX11_lengthLaidAmongShared_4 (by decide) (fun _ => ?_) (fun z => absurd z (by rw [e]; decide))
    refine wp_aload_n (pc := 9) dX11_lengthLaidAmongShared_9 rfl rfl ?_
    refine wp_get (pc := 10) dX11_lengthLaidAmongShared_10 fl_X11_334_9 (hR.tr2 hy e) rfl ?_
    refine wp_astore_nN (pc := 13) (lv' := [_, _, _]) dX11_lengthLaidAmongShared_13 rfl (Nat.le_of_ble_eq_true rfl) rfl rfl ?_
    refine wp_aload_nN (pc := 14) dX11_lengthLaidAmongShared_14 rfl rfl ?_
    refine wp_instN (pc := 15) dX11_lengthLaidAmongShared_15 ?_
    refine wp_if_eq (pc := 18) (tgt := 28) dX11_lengthLaidAmongShared_18 (by decide) (fun _ => ?_) (fun z => absurd (by decide) z)
    refine wp_aload_n (pc := 28) dX11_lengthLaidAmongShared_28 rfl rfl ?_
    refine wp_bipush (pc := 29) (v := 14) dX11_lengthLaidAmongShared_29 (by decide) ?_
    refine wc_VV (pc := 31) (μ2 := mX11_refuse) (rc := 0) (rs := 0) [_] dX11_lengthLaidAmongShared_31 rfl hR.bd rfl cv_X11_328_12 rfl ⟨(Nat.le_of_ble_eq_true rfl), (Nat.le_of_ble_eq_true rfl)⟩ (Nat.le_of_ble_eq_true rfl) (c_refuse l G _ hR) (fun r h q => ?_)
    obtain ⟨rfl, hR⟩ := q
    exact wp_iret (pc := 34) dX11_lengthLaidAmongShared_34 rfl ⟨_, rfl, by simp only [lasF, e, (by decide : ((2 : Int32) = 0) = False), (by decide : ((2 : Int32) = 1) = False), (by decide : ((2 : Int32) = 3) = False), (by decide : ((2 : Int32) = 4) = False), if_true, if_false, Bool.true_eq_false, Bool.false_eq_true, reduceIte, reduceCtorEq, Bool.not_true, Bool.not_false, true_and, and_true, and_false, false_and, or_true, true_or, or_false, false_or, not_true_eq_false, not_false_eq_true] <;> rfl, by simp only [lasF, e, (by decide : ((2 : Int32) = 0) = False), (by decide : ((2 : Int32) = 1) = False), (by decide : ((2 : Int32) = 3) = False), (by decide : ((2 : Int32) = 4) = False), if_true, if_false, Bool.true_eq_false, Bool.false_eq_true, reduceIte, reduceCtorEq, Bool.not_true, Bool.not_false, true_and, and_true, and_false, false_and, or_true, true_or, or_false, false_or, not_true_eq_false, not_false_eq_true] <;> first | exact hR | (simp only [e, (by decide : ((2 : Int32) = 0) = False), (by decide : ((2 : Int32) = 1) = False), (by decide : ((2 : Int32) = 3) = False), (by decide : ((2 : Int32) = 4) = False), if_true, if_false, Bool.true_eq_false, Bool.false_eq_true, reduceIte, reduceCtorEq, Bool.not_true, Bool.not_false, true_and, and_true, and_false, false_and, or_true, true_or, or_false, false_or, not_true_eq_false, not_false_eq_true] at hR; exact hR)⟩
  · refine wp_aload_n (pc := 0) dX11_lengthLaidAmongShared_0 rfl rfl ?_
    refine wc_VP (pc := 1) (μ2 := mX8_isEmpty) (rc := 0) (rs := 0) [] dX11_lengthLaidAmongShared_1 rfl (hR.tr3 hy e) rfl cv_X11_511_9 rfl ⟨(Nat.le_of_ble_eq_true rfl), (Nat.le_of_ble_eq_true rfl)⟩ (Nat.le_of_ble_eq_true rfl) (c_isEmpty l G hR hy h549) ?_
    refine wp_ifB_eq (pc := 4) (tgt := 9) dX11_lengthLaidAmongShared_4 (by decide) (fun _ => ?_) (fun z => absurd z (by rw [e]; decide))
    refine wp_aload_n (pc := 9) dX11_lengthLaidAmongShared_9 rfl rfl ?_
    refine wp_get (pc := 10) dX11_lengthLaidAmongShared_10 fl_X11_334_9 (hR.tr3 hy e) rfl ?_
    refine wp_astore_nN (pc := 13) (lv' := [_, _, _]) dX11_lengthLaidAmongShared_13 rfl (Nat.le_of_ble_eq_true rfl) rfl rfl ?_
    refine wp_aload_nN (pc := 14) dX11_lengthLaidAmongShared_14 rfl rfl ?_
    refine wp_instN (pc := 15) dX11_lengthLaidAmongShared_15 ?_
    refine wp_if_eq (pc := 18) (tgt := 28) dX11_lengthLaidAmongShared_18 (by decide) (fun _ => ?_) (fun z => absurd (by decide) z)
    refine wp_aload_n (pc := 28) dX11_lengthLaidAmongShared_28 rfl rfl ?_
    refine wp_bipush (pc := 29) (v := 14) dX11_lengthLaidAmongShared_29 (by decide) ?_
    refine wc_VV (pc := 31) (μ2 := mX11_refuse) (rc := 0) (rs := 0) [_] dX11_lengthLaidAmongShared_31 rfl hR.bd rfl cv_X11_328_12 rfl ⟨(Nat.le_of_ble_eq_true rfl), (Nat.le_of_ble_eq_true rfl)⟩ (Nat.le_of_ble_eq_true rfl) (c_refuse l G _ hR) (fun r h q => ?_)
    obtain ⟨rfl, hR⟩ := q
    exact wp_iret (pc := 34) dX11_lengthLaidAmongShared_34 rfl ⟨_, rfl, by simp only [lasF, e, (by decide : ((3 : Int32) = 0) = False), (by decide : ((3 : Int32) = 1) = False), (by decide : ((3 : Int32) = 2) = False), (by decide : ((3 : Int32) = 4) = False), if_true, if_false, Bool.true_eq_false, Bool.false_eq_true, reduceIte, reduceCtorEq, Bool.not_true, Bool.not_false, true_and, and_true, and_false, false_and, or_true, true_or, or_false, false_or, not_true_eq_false, not_false_eq_true] <;> rfl, by simp only [lasF, e, (by decide : ((3 : Int32) = 0) = False), (by decide : ((3 : Int32) = 1) = False), (by decide : ((3 : Int32) = 2) = False), (by decide : ((3 : Int32) = 4) = False), if_true, if_false, Bool.true_eq_false, Bool.false_eq_true, reduceIte, reduceCtorEq, Bool.not_true, Bool.not_false, true_and, and_true, and_false, false_and, or_true, true_or, or_false, false_or, not_true_eq_false, not_false_eq_true] <;> first | exact hR | (simp only [e, (by decide : ((3 : Int32) = 0) = False), (by decide : ((3 : Int32) = 1) = False), (by decide : ((3 : Int32) = 2) = False), (by decide : ((3 : Int32) = 4) = False), if_true, if_false, Bool.true_eq_false, Bool.false_eq_true, reduceIte, reduceCtorEq, Bool.not_true, Bool.not_false, true_and, and_true, and_false, false_and, or_true, true_or, or_false, false_or, not_true_eq_false, not_false_eq_true] at hR; exact hR)⟩
  · refine wp_aload_n (pc := 0) dX11_lengthLaidAmongShared_0 rfl rfl ?_
    refine wc_VP (pc := 1) (μ2 := mX8_isEmpty) (rc := 0) (rs := 0) [] dX11_lengthLaidAmongShared_1 rfl (hR.tr4 hy e) rfl cv_X11_511_9 rfl ⟨(Nat.le_of_ble_eq_true rfl), (Nat.le_of_ble_eq_true rfl)⟩ (Nat.le_of_ble_eq_true rfl) (c_isEmpty l G hR hy h549) ?_
    refine wp_ifB_eq (pc := 4) (tgt := 9) dX11_lengthLaidAmongShared_4 (by decide) (fun _ => ?_) (fun z => absurd z (by rw [e]; decide))
    refine wp_aload_n (pc := 9) dX11_lengthLaidAmongShared_9 rfl rfl ?_
    refine wp_get (pc := 10) dX11_lengthLaidAmongShared_10 fl_X11_334_9 (hR.tr4 hy e) rfl ?_
    refine wp_astore_nN (pc := 13) (lv' := [_, _, _]) dX11_lengthLaidAmongShared_13 rfl (Nat.le_of_ble_eq_true rfl) rfl rfl ?_
    refine wp_aload_nN (pc := 14) dX11_lengthLaidAmongShared_14 rfl rfl ?_
    refine wp_instN (pc := 15) dX11_lengthLaidAmongShared_15 ?_
    refine wp_if_eq (pc := 18) (tgt := 28) dX11_lengthLaidAmongShared_18 (by decide) (fun _ => ?_) (fun z => absurd (by decide) z)
    refine wp_aload_n (pc := 28) dX11_lengthLaidAmongShared_28 rfl rfl ?_
    refine wp_bipush (pc := 29) (v := 14) dX11_lengthLaidAmongShared_29 (by decide) ?_
    refine wc_VV (pc := 31) (μ2 := mX11_refuse) (rc := 0) (rs := 0) [_] dX11_lengthLaidAmongShared_31 rfl hR.bd rfl cv_X11_328_12 rfl ⟨(Nat.le_of_ble_eq_true rfl), (Nat.le_of_ble_eq_true rfl)⟩ (Nat.le_of_ble_eq_true rfl) (c_refuse l G _ hR) (fun r h q => ?_)
    obtain ⟨rfl, hR⟩ := q
    exact wp_iret (pc := 34) dX11_lengthLaidAmongShared_34 rfl ⟨_, rfl, by simp only [lasF, e, (by decide : ((4 : Int32) = 0) = False), (by decide : ((4 : Int32) = 1) = False), (by decide : ((4 : Int32) = 2) = False), (by decide : ((4 : Int32) = 3) = False), if_true, if_false, Bool.true_eq_false, Bool.false_eq_true, reduceIte, reduceCtorEq, Bool.not_true, Bool.not_false, true_and, and_true, and_false, false_and, or_true, true_or, or_false, false_or, not_true_eq_false, not_false_eq_true] <;> rfl, by simp only [lasF, e, (by decide : ((4 : Int32) = 0) = False), (by decide : ((4 : Int32) = 1) = False), (by decide : ((4 : Int32) = 2) = False), (by decide : ((4 : Int32) = 3) = False), if_true, if_false, Bool.true_eq_false, Bool.false_eq_true, reduceIte, reduceCtorEq, Bool.not_true, Bool.not_false, true_and, and_true, and_false, false_and, or_true, true_or, or_false, false_or, not_true_eq_false, not_false_eq_true] <;> first | exact hR | (simp only [e, (by decide : ((4 : Int32) = 0) = False), (by decide : ((4 : Int32) = 1) = False), (by decide : ((4 : Int32) = 2) = False), (by decide : ((4 : Int32) = 3) = False), if_true, if_false, Bool.true_eq_false, Bool.false_eq_true, reduceIte, reduceCtorEq, Bool.not_true, Bool.not_false, true_and, and_true, and_false, false_and, or_true, true_or, or_false, false_or, not_true_eq_false, not_false_eq_true] at hR; exact hR)⟩
end K29
