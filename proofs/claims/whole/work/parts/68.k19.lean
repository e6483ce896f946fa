/-! ===== the class: queues, risers, numbers ===== -/
theorem row8w (M : MS) (i : Nat) {q : Nat} (hq : q < 8) (v : Int32) : fu (fun t => if t < 8 then M.2.1 17 (8 * i + t) else 0) q v = fun t => if t < 8 then (sI M 17 (8 * i + q) v).2.1 17 (8 * i + t) else 0 := by
  funext t
  show (if t = q then v else if t < 8 then M.2.1 17 (8 * i + t) else 0) = if t < 8 then (sI M 17 (8 * i + q) v).2.1 17 (8 * i + t) else 0
  rw [sI_at]
  by_cases e : t = q
  · subst e; simp [hq]
  · have e2 : ¬ (17 = 17 ∧ 8 * i + t = 8 * i + q) := fun z => e (by omega)
    rw [if_neg e, if_neg e2]
theorem sI_comm (M : MS) {k k' : Nat} (j j' : Nat) (v v' : Int32) (h : k ≠ k') : sI (sI M k j v) k' j' v' = sI (sI M k' j' v') k j v := ms_ext (fun _ => rfl) (fun a b => by simp only [sI_at]; split <;> split <;> simp_all) (fun _ _ => rfl)
def shM (M : MS) (t : Nat) : Nat → MS
  | 0 => M
  | n + 1 => sI (shM M t n) 17 (8 * t + n) ((shM M t n).2.1 17 (8 * t + (n + 1)))
theorem shM_1 (M : MS) (t : Nat) : ∀ n, (shM M t n).1 = M.1 ∧ (shM M t n).2.2 = M.2.2 ∧ ∀ k, k ≠ 17 → (shM M t n).2.1 k = M.2.1 k
  | 0 => ⟨rfl, rfl, fun _ _ => rfl⟩
  | n + 1 => by
    obtain ⟨h1, h2, h3⟩ := shM_1 M t n
    exact ⟨h1, h2, fun k hk => by show (sI (shM M t n) 17 _ _).2.1 k = _; rw [sI_k _ _ _ hk]; exact h3 k hk⟩
theorem uq_sh (M : MS) (t : Nat) : ∀ n, uqM M t 0 n = sI (shM M t n) 16 t (M.2.1 16 t - 1)
  | 0 => rfl
  | n + 1 => by
    show sI (uqM M t 0 n) 17 (8 * t + (0 + n)) ((uqM M t 0 n).2.1 17 (8 * t + (0 + n) + 1)) = sI (sI (shM M t n) 17 (8 * t + n) ((shM M t n).2.1 17 (8 * t + (n + 1)))) 16 t (M.2.1 16 t - 1)
    rw [uq_sh M t n, sI_k _ _ _ (by decide), Nat.zero_add, sI_comm _ _ _ _ _ (by decide), Nat.add_assoc]
section RA19
variable {G : WG} {hp h : Hp} {A : AD} {M : MS}
theorem ce20 (hR : RH G hp A M h) (t : Nat) : ∀ t', t' < nx ((sI M 20 t 0).1 11) → ¬ (sI M 20 t 0).2.1 20 t' = 0 → A.2.2.2 t' = (sI M 20 t 0).2.2 19 t' := fun t' ht' hn => by
  by_cases et : t' = t
  · subst et; exact absurd (by rw [sI_at, if_pos ⟨rfl, rfl⟩]) hn
  · rw [sI_n _ _ _ _ et] at hn; exact hR.2.2.2.2.2 t' ht' hn
end RA19
section K19
variable (l : Launch) (G : WG) {hp h : Hp} {A : AD} {M : MS}
theorem c_isQueued {t : Nat} (w : Int32) (hR : RH G hp A M h) (ht : t < nx (M.1 11)) (hk : M.2.1 12 t = 4) (hTI : thI M t) : SpP l G mX9_isQueued [.ref (A.1 7 t), .int w] h (.int (if qat M t w (nx (M.2.1 16 t)) = none then 0 else 1)) := by
  refine Sp.intro (lv := [_, _, _]) (by decide) rfl (Nat.le_of_ble_eq_true rfl) ?_
  refine wp_widen (rc' := 0) (rs' := 0) (Nat.le_refl _) (Nat.le_refl _) ?_
  obtain ⟨g1, g2, q1, q2, q3, q4, q5, q6⟩ := hTI
  generalize hQ0 : (fun (w9 : Option Value) (h' : Hp) => w9 = some (.int (if qat M t w (nx (M.2.1 16 t)) = none then 0 else 1)) ∧ h' = h) = Q0
  have loop : ∀ i, i ≤ nx (M.2.1 16 t) → (∀ q, q < i → ¬ M.2.1 17 (8 * t + q) = w) → wp l G mX9_isQueued (zM G mX9_isQueued Q0) 2 [some (.ref (A.1 7 t)), some (.int w), some (.int (nI i))] [] h 0 0 := by
    refine loopU _ (nx (M.2.1 16 t)) (fun i hi ih => ?_) ?_
    · intro hn
      refine wp_iload_n (pc := 2) dX9_isQueued_2 rfl rfl ?_
      refine wp_aload_n (pc := 3) dX9_isQueued_3 rfl rfl ?_
      refine wp_get (pc := 4) dX9_isQueued_4 fl_X9_15_10 (hR.thW ht hk) rfl ?_
      refine wp_icmp_ge (pc := 7) (tgt := 37) dX9_isQueued_7 (by decide) (fun z => absurd z (by rw [q1]; exact nI_ge hi (by omega))) (fun _ => ?_)
      refine wp_iload_n (pc := 10) dX9_isQueued_10 rfl rfl ?_
      refine wp_aload_n (pc := 11) dX9_isQueued_11 rfl rfl ?_
      refine wp_get (pc := 12) dX9_isQueued_12 fl_X9_9_10 (hR.thW ht hk) rfl ?_
      refine wp_alen (k := 0) (pc := 15) (by decide) dX9_isQueued_15 (hR.qu (i := t) ⟨ht, hk⟩) ?_
      refine wp_icmp_ge (pc := 16) (tgt := 37) dX9_isQueued_16 (by decide) (fun z => absurd z (nI_ge (b := 8) (by omega) (by decide))) (fun _ => ?_)
      refine wp_aload_n (pc := 19) dX9_isQueued_19 rfl rfl ?_
      refine wp_get (pc := 20) dX9_isQueued_20 fl_X9_9_10 (hR.thW ht hk) rfl ?_
      refine wp_iload_n (pc := 23) dX9_isQueued_23 rfl rfl ?_
      refine wp_iald (pc := 24) (i := i) dX9_isQueued_24 (hR.qu (i := t) ⟨ht, hk⟩) ⟨rfl, by omega, by decide⟩ ?_
      rw [if_pos (show i < 8 by omega)]
      refine wp_iload_n (pc := 25) dX9_isQueued_25 rfl rfl ?_
      refine wp_icmp_ne (pc := 26) (tgt := 31) dX9_isQueued_26 (by decide) (fun c26 => ?_) (fun c26 => ?_)
      · skip
        refine wp_iinc (pc := 31) (v := _ + 1) (lv' := [_, _, _]) dX9_isQueued_31 rfl rfl rfl rfl ?_
        refine wp_goto (pc := 34) (tgt := 2) dX9_isQueued_34 (by decide) ?_
        exact wp_lv (ih (fun q hq => by
          by_cases e : q = i
          · subst e; exact c26
          · exact hn q (by omega))) (by simp [nI_1])
      · skip
        refine wp_iconst (pc := 29) (v := 1) dX9_isQueued_29 (by decide) ?_
        exact wp_zret (pc := 30) dX9_isQueued_30 rfl (by decide) (by rw [← hQ0]; exact ⟨by unfold qat; rw [find_range hi (fun q hq => decide_eq_false (hn q hq)) (decide_eq_true c26)]; rfl, rfl⟩)
    · intro hn
      refine wp_iload_n (pc := 2) dX9_isQueued_2 rfl rfl ?_
      refine wp_aload_n (pc := 3) dX9_isQueued_3 rfl rfl ?_
      refine wp_get (pc := 4) dX9_isQueued_4 fl_X9_15_10 (hR.thW ht hk) rfl ?_
      refine wp_icmp_ge (pc := 7) (tgt := 37) dX9_isQueued_7 (by decide) (fun _ => ?_) (fun z => absurd (by rw [← q1]; exact Int32.le_refl _) z)
      refine wp_iconst (pc := 37) (v := 0) dX9_isQueued_37 (by decide) ?_
      exact wp_zret (pc := 38) dX9_isQueued_38 rfl (by decide) (by rw [← hQ0]; exact ⟨by unfold qat; rw [find_rangeN (fun q hq => decide_eq_false (hn q hq))]; rfl, rfl⟩)
  refine wp_iconst (pc := 0) (v := 0) dX9_isQueued_0 (by decide) ?_
  refine wp_istore_n (pc := 1) (lv' := [_, _, _]) dX9_isQueued_1 rfl (Nat.le_of_ble_eq_true rfl) rfl rfl ?_
  exact loop 0 (Nat.zero_le _) (fun q hq => absurd hq (by omega))
theorem c_isQueueFull {t : Nat} (hR : RH G hp A M h) (ht : t < nx (M.1 11)) (hk : M.2.1 12 t = 4) (hTI : thI M t) : SpP l G mX9_isQueueFull [.ref (A.1 7 t)] h (.int (bi (decide (M.2.1 16 t = 8)))) := by
  refine Sp.intro (lv := [_]) (by decide) rfl (Nat.le_of_ble_eq_true rfl) ?_
  refine wp_widen (rc' := 0) (rs' := 0) (Nat.le_refl _) (Nat.le_refl _) ?_
  obtain ⟨g1, g2, q1, q2, q3, q4, q5, q6⟩ := hTI
  refine wp_aload_n (pc := 0) dX9_isQueueFull_0 rfl rfl ?_
  refine wp_get (pc := 1) dX9_isQueueFull_1 fl_X9_15_10 (hR.thW ht hk) rfl ?_
  refine wp_aload_n (pc := 4) dX9_isQueueFull_4 rfl rfl ?_
  refine wp_get (pc := 5) dX9_isQueueFull_5 fl_X9_9_10 (hR.thW ht hk) rfl ?_
  refine wp_alen (k := 0) (pc := 8) (by decide) dX9_isQueueFull_8 (hR.qu (i := t) ⟨ht, hk⟩) ?_
  refine wp_icmp_lt (pc := 9) (tgt := 16) dX9_isQueueFull_9 (by decide) (fun c9 => ?_) (fun c9 => ?_)
  · have c10 : decide (M.2.1 16 t = 8) = false := decide_eq_false (fun z => by rw [z] at c9; exact absurd c9 (by decide))
    refine wp_iconst (pc := 16) (v := 0) dX9_isQueueFull_16 (by decide) ?_
    exact wp_zret (pc := 17) dX9_isQueueFull_17 rfl (by decide) ⟨by rw [c10]; rfl, rfl⟩
  · have c10 : decide (M.2.1 16 t = 8) = true := decide_eq_true (by rw [q1] at c9 ⊢; rw [lt_eq (n := 8) q2 (by decide) c9]; rfl)
    refine wp_iconst (pc := 12) (v := 1) dX9_isQueueFull_12 (by decide) ?_
    refine wp_goto (pc := 13) (tgt := 17) dX9_isQueueFull_13 (by decide) ?_
    exact wp_zret (pc := 17) dX9_isQueueFull_17 rfl (by decide) ⟨by rw [c10]; rfl, rfl⟩
theorem c_isFirstDue {t : Nat} (hR : RH G hp A M h) (ht : t < nx (M.1 11)) (hk : M.2.1 12 t = 4) (hTI : thI M t) : SpP l G mX9_isFirstDue [.ref (A.1 7 t)] h (.int (bi (decide (¬ M.2.1 16 t ≤ 0 ∧ M.2.1 21 t = 0 ∧ M.2.1 20 t = 0)))) := by
  refine Sp.intro (lv := [_]) (by decide) rfl (Nat.le_of_ble_eq_true rfl) ?_
  refine wp_widen (rc' := 0) (rs' := 0) (Nat.le_refl _) (Nat.le_refl _) ?_
  refine wp_aload_n (pc := 0) dX9_isFirstDue_0 rfl rfl ?_
  refine wp_get (pc := 1) dX9_isFirstDue_1 fl_X9_15_10 (hR.thW ht hk) rfl ?_
  refine wp_if_le (pc := 4) (tgt := 28) dX9_isFirstDue_4 (by decide) (fun c4 => ?_) (fun c4 => ?_)
  · skip
    refine wp_iconst (pc := 28) (v := 0) dX9_isFirstDue_28 (by decide) ?_
    exact wp_zret (pc := 29) dX9_isFirstDue_29 rfl (by decide) ⟨by rw [decide_eq_false (fun z => z.1 c4)]; rfl, rfl⟩
  · skip
    refine wp_aload_n (pc := 7) dX9_isFirstDue_7 rfl rfl ?_
    refine wp_get (pc := 8) dX9_isFirstDue_8 fl_X9_27_10 (hR.thW ht hk) rfl ?_
    refine wc_VP (pc := 11) (μ2 := mJx4a65c_isEmpty_aae02) (rc := 0) (rs := 0) [] dX9_isFirstDue_11 rfl (hR.lst (ll := t + 4) (by omega)) rfl cv_X9_31_0 rfl ⟨(Nat.le_of_ble_eq_true rfl), (Nat.le_of_ble_eq_true rfl)⟩ (Nat.le_of_ble_eq_true rfl) (show SpP l G mJx4a65c_isEmpty_aae02 [_] _ (.int (if nI (nx (M.2.1 21 t)) = 0 then 1 else 0)) from j_isEmpty l G _ (hR.lst (ll := t + 4) (by omega))) ?_
    refine wp_if_eq (pc := 14) (tgt := 28) dX9_isFirstDue_14 (by decide) (fun c14 => ?_) (fun c14 => ?_)
    · have g0 : ¬ M.2.1 21 t = 0 := fun z => by rw [← hTI.1, if_pos z] at c14; exact absurd c14 (by decide)
      refine wp_iconst (pc := 28) (v := 0) dX9_isFirstDue_28 (by decide) ?_
      exact wp_zret (pc := 29) dX9_isFirstDue_29 rfl (by decide) ⟨by rw [decide_eq_false (fun z => g0 z.2.1)]; rfl, rfl⟩
    · have g0 : M.2.1 21 t = 0 := Decidable.byContradiction (fun z => c14 (by rw [← hTI.1, if_neg z]))
      refine wp_aload_n (pc := 17) dX9_isFirstDue_17 rfl rfl ?_
      refine wp_get (pc := 18) dX9_isFirstDue_18 fl_X9_19_10 (hR.thW ht hk) rfl ?_
      refine wp_if_ne (pc := 21) (tgt := 28) dX9_isFirstDue_21 (by decide) (fun c21 => ?_) (fun c21 => ?_)
      · skip
        refine wp_iconst (pc := 28) (v := 0) dX9_isFirstDue_28 (by decide) ?_
        exact wp_zret (pc := 29) dX9_isFirstDue_29 rfl (by decide) ⟨by rw [decide_eq_false (fun z => c21 z.2.2)]; rfl, rfl⟩
      · skip
        refine wp_iconst (pc := 24) (v := 1) dX9_isFirstDue_24 (by decide) ?_
        refine wp_goto (pc := 25) (tgt := 29) dX9_isFirstDue_25 (by decide) ?_
        exact wp_zret (pc := 29) dX9_isFirstDue_29 rfl (by decide) ⟨by rw [decide_eq_true ⟨c4, g0, c21⟩]; rfl, rfl⟩
theorem c_join {t : Nat} (w : Int32) (hR : RH G hp A M h) (ht : t < nx (M.1 11)) (hk : M.2.1 12 t = 4) (hTI : thI M t) (hq8 : nx (M.2.1 16 t) < 8) : SpN l G mX9_join [.ref (A.1 7 t), .int w] h (fun h' => RH G hp A (sI (sI M 17 (8 * t + nx (M.2.1 16 t)) w) 16 t (M.2.1 16 t + 1)) h') := by
  refine Sp.intro (lv := [_, _]) (by decide) rfl (Nat.le_of_ble_eq_true rfl) ?_
  refine wp_widen (rc' := 0) (rs' := 0) (Nat.le_refl _) (Nat.le_refl _) ?_
  obtain ⟨g1, g2, q1, q2, q3, q4, q5, q6⟩ := hTI
  have hk9 : M.2.1 12 t = 4 := hk
  refine wp_aload_n (pc := 0) dX9_join_0 rfl rfl ?_
  refine wp_get (pc := 1) dX9_join_1 fl_X9_15_10 (hR.thW ht hk) rfl ?_
  refine wp_aload_n (pc := 4) dX9_join_4 rfl rfl ?_
  refine wp_get (pc := 5) dX9_join_5 fl_X9_9_10 (hR.thW ht hk) rfl ?_
  refine wp_alen (k := 0) (pc := 8) (by decide) dX9_join_8 (hR.qu (i := t) ⟨ht, hk⟩) ?_
  refine wp_icmp_ge (pc := 9) (tgt := 32) dX9_join_9 (by decide) (fun z => absurd z (by rw [q1]; exact nI_ge (b := 8) hq8 (by decide))) (fun _ => ?_)
  refine wp_aload_n (pc := 12) dX9_join_12 rfl rfl ?_
  refine wp_get (pc := 13) dX9_join_13 fl_X9_9_10 (hR.thW ht hk) rfl ?_
  refine wp_aload_n (pc := 16) dX9_join_16 rfl rfl ?_
  refine wp_get (pc := 17) dX9_join_17 fl_X9_15_10 (hR.thW ht hk) rfl ?_
  refine wp_iload_n (pc := 20) dX9_join_20 rfl rfl ?_
  refine wp_iastC (pc := 21) (i := nx (M.2.1 16 t)) dX9_join_21 (hR.qu (i := t) ⟨ht, hk⟩) ⟨q1, hq8, by decide⟩ (fun h hq1 hq2 => ?_)
  have hR := hR.k10 (M' := sI (M) 17 (8 * t + nx (M.2.1 16 t)) (w)) ((chg.refl _ _ _ _).sI (by decide) _) (vl_10.mpr ⟨ht, hk⟩) (by omega) (by rw [hq1]; exact congrArg some (congrArg (aI 8) (row8w _ t (by omega) _))) hq2
  refine wp_aload_n (pc := 22) dX9_join_22 rfl rfl ?_
  refine wp_dup (pc := 23) dX9_join_23 rfl ?_
  refine wp_get (pc := 24) dX9_join_24 fl_X9_15_10 (hR.thW ht hk) rfl ?_
  refine wp_iconst (pc := 27) (v := 1) dX9_join_27 (by decide) ?_
  refine wp_iadd (pc := 28) dX9_join_28 ?_
  refine wp_putC (pc := 29) dX9_join_29 fl_X9_15_10 (hR.thW ht hk) (Or.inl rfl) (Nat.le_of_ble_eq_true rfl) rfl rfl rfl (fun h hq1 hq2 => ?_)
  have hR := RH.k7 (A' := A) hR (M' := sI (sI (M) 17 (8 * t + nx (M.2.1 16 t)) (w)) 16 t (M.2.1 16 t + 1)) ((chg.refl _ _ _ _).sI (by decide) _) (vl_7.mpr ht) (hR.2.2.2.2.2) ⟨rfl, rfl, rfl, fun _ _ => rfl⟩ (by rw [hq1]; simp [cc, cTh, tEx, lng, tci, sI, sL, fu, hk9]) hq2
  exact wp_vret (pc := 32) dX9_join_32 rfl ⟨rfl, hR⟩
theorem c_dropFirst {t : Nat} (hR : RH G hp A M h) (ht : t < nx (M.1 11)) (hk : M.2.1 12 t = 4) (hTI : thI M t) (hq0 : 0 < nx (M.2.1 16 t)) : SpN l G mX9_dropFirst [.ref (A.1 7 t)] h (fun h' => RH G hp A (unqM M t 0 (nx (M.2.1 16 t))) h') := by
  refine Sp.intro (lv := [_, _]) (by decide) rfl (Nat.le_of_ble_eq_true rfl) ?_
  refine wp_widen (rc' := 0) (rs' := 0) (Nat.le_refl _) (Nat.le_refl _) ?_
  obtain ⟨g1, g2, q1, q2, q3, q4, q5, q6⟩ := hTI
  generalize hQ0 : (fun (w9 : Option Value) (h' : Hp) => w9 = none ∧ RH G hp A (unqM M t 0 (nx (M.2.1 16 t))) h') = Q0
  have loop : ∀ n, n ≤ nx (M.2.1 16 t) - 1 → ∀ h, RH G hp A (shM M t n) h → wp l G mX9_dropFirst (zM G mX9_dropFirst Q0) 9 [some (.ref (A.1 7 t)), some (.int (nI (n + 1)))] [] h 0 0 := by
    refine loopU _ (nx (M.2.1 16 t) - 1) (fun n hn ih => ?_) ?_
    · intro h hR
      obtain ⟨s1, s2, s3⟩ := shM_1 M t n
      have ht : t < nx ((shM M t n).1 11) := by rw [s1]; exact ht
      have hk9 : (shM M t n).2.1 12 t = 4 := by rw [s3 12 (by decide)]; exact hk
      have hk := hk9
      have q9 : (shM M t n).2.1 16 t = nI (nx (M.2.1 16 t)) := by rw [s3 16 (by decide)]; exact q1
      refine wp_iload_n (pc := 9) dX9_dropFirst_9 rfl rfl ?_
      refine wp_aload_n (pc := 10) dX9_dropFirst_10 rfl rfl ?_
      refine wp_get (pc := 11) dX9_dropFirst_11 fl_X9_15_10 (hR.thW ht hk) rfl ?_
      refine wp_icmp_ge (pc := 14) (tgt := 46) dX9_dropFirst_14 (by decide) (fun z => absurd z (by rw [q9]; exact nI_ge (by omega) (by omega))) (fun _ => ?_)
      refine wp_iload_n (pc := 17) dX9_dropFirst_17 rfl rfl ?_
      refine wp_aload_n (pc := 18) dX9_dropFirst_18 rfl rfl ?_
      refine wp_get (pc := 19) dX9_dropFirst_19 fl_X9_9_10 (hR.thW ht hk) rfl ?_
      refine wp_alen (k := 0) (pc := 22) (by decide) dX9_dropFirst_22 (hR.qu (i := t) ⟨ht, hk⟩) ?_
      refine wp_icmp_ge (pc := 23) (tgt := 46) dX9_dropFirst_23 (by decide) (fun z => absurd z (nI_ge (b := 8) (by omega) (by decide))) (fun _ => ?_)
      refine wp_aload_n (pc := 26) dX9_dropFirst_26 rfl rfl ?_
      refine wp_get (pc := 27) dX9_dropFirst_27 fl_X9_9_10 (hR.thW ht hk) rfl ?_
      refine wp_iload_n (pc := 30) dX9_dropFirst_30 rfl rfl ?_
      refine wp_iconst (pc := 31) (v := 1) dX9_dropFirst_31 (by decide) ?_
      refine wp_isub (pc := 32) dX9_dropFirst_32 ?_
      refine wp_aload_n (pc := 33) dX9_dropFirst_33 rfl rfl ?_
      refine wp_get (pc := 34) dX9_dropFirst_34 fl_X9_9_10 (hR.thW ht hk) rfl ?_
      refine wp_iload_n (pc := 37) dX9_dropFirst_37 rfl rfl ?_
      refine wp_iald (pc := 38) (i := n + 1) dX9_dropFirst_38 (hR.qu (i := t) ⟨ht, hk⟩) ⟨rfl, by omega, by decide⟩ ?_
      rw [if_pos (show n + 1 < 8 by omega)]
      refine wp_iastC (pc := 39) (i := n) dX9_dropFirst_39 (hR.qu (i := t) ⟨ht, hk⟩) ⟨nI_pred n, by omega, by decide⟩ (fun h hq1 hq2 => ?_)
      have hR := hR.k10 (M' := sI (shM M t n) 17 (8 * t + n) ((shM M t n).2.1 17 (8 * t + (n + 1)))) ((chg.refl _ _ _ _).sI (by decide) _) (vl_10.mpr ⟨ht, hk⟩) (by omega) (by rw [hq1]; exact congrArg some (congrArg (aI 8) (row8w _ t (by omega) _))) hq2
      refine wp_iinc (pc := 40) (v := _ + 1) (lv' := [_, _]) dX9_dropFirst_40 rfl rfl rfl rfl ?_
      refine wp_goto (pc := 43) (tgt := 9) dX9_dropFirst_43 (by decide) ?_
      exact wp_lv (ih h hR) (by simp [nI_1])
    · intro h hR
      obtain ⟨s1, s2, s3⟩ := shM_1 M t (nx (M.2.1 16 t) - 1)
      have ht : t < nx ((shM M t (nx (M.2.1 16 t) - 1)).1 11) := by rw [s1]; exact ht
      have hk9 : (shM M t (nx (M.2.1 16 t) - 1)).2.1 12 t = 4 := by rw [s3 12 (by decide)]; exact hk
      have hk := hk9
      have q9 : (shM M t (nx (M.2.1 16 t) - 1)).2.1 16 t = nI (nx (M.2.1 16 t)) := by rw [s3 16 (by decide)]; exact q1
      refine wp_iload_n (pc := 9) dX9_dropFirst_9 rfl rfl ?_
      refine wp_aload_n (pc := 10) dX9_dropFirst_10 rfl rfl ?_
      refine wp_get (pc := 11) dX9_dropFirst_11 fl_X9_15_10 (hR.thW ht hk) rfl ?_
      refine wp_icmp_ge (pc := 14) (tgt := 46) dX9_dropFirst_14 (by decide) (fun _ => ?_) (fun z => absurd (by rw [q9]; exact nI_le (by omega) (by omega)) z)
      refine wp_aload_n (pc := 46) dX9_dropFirst_46 rfl rfl ?_
      refine wp_dup (pc := 47) dX9_dropFirst_47 rfl ?_
      refine wp_get (pc := 48) dX9_dropFirst_48 fl_X9_15_10 (hR.thW ht hk) rfl ?_
      rw [s3 16 (by decide)]
      refine wp_iconst (pc := 51) (v := 1) dX9_dropFirst_51 (by decide) ?_
      refine wp_isub (pc := 52) dX9_dropFirst_52 ?_
      refine wp_putC (pc := 53) dX9_dropFirst_53 fl_X9_15_10 (hR.thW ht hk) (Or.inl rfl) (Nat.le_of_ble_eq_true rfl) rfl rfl rfl (fun h hq1 hq2 => ?_)
      have hR := RH.k7 (A' := A) hR (M' := sI (shM M t (nx (M.2.1 16 t) - 1)) 16 t (M.2.1 16 t - 1)) ((chg.refl _ _ _ _).sI (by decide) _) (vl_7.mpr ht) (hR.2.2.2.2.2) ⟨rfl, rfl, rfl, fun _ _ => rfl⟩ (by rw [hq1]; simp [cc, cTh, tEx, lng, tci, sI, sL, fu, hk9]) hq2
      refine wp_aload_n (pc := 56) dX9_dropFirst_56 rfl rfl ?_
      refine wp_iconst (pc := 57) (v := 0) dX9_dropFirst_57 (by decide) ?_
      refine wp_putC (pc := 58) dX9_dropFirst_58 fl_X9_19_10 (hR.thW ht hk) (Or.inl rfl) (Nat.le_of_ble_eq_true rfl) rfl rfl rfl (fun h hq1 hq2 => ?_)
      have hR := RH.k7 (A' := A) hR (M' := sI (sI (shM M t (nx (M.2.1 16 t) - 1)) 16 t (M.2.1 16 t - 1)) 20 t (0)) ((chg.refl _ _ _ _).sI (by decide) _) (vl_7.mpr ht) (ce20 hR t) ⟨rfl, rfl, rfl, fun _ _ => rfl⟩ (by rw [hq1]; simp [cc, cTh, tEx, lng, tci, sI, sL, fu, hk9]) hq2
      exact wp_vret (pc := 61) dX9_dropFirst_61 rfl (by rw [← hQ0]; exact ⟨rfl, by unfold unqM; rw [if_pos rfl, uq_sh]; exact hR⟩)
  refine wp_aload_n (pc := 0) dX9_dropFirst_0 rfl rfl ?_
  refine wp_get (pc := 1) dX9_dropFirst_1 fl_X9_15_10 (hR.thW ht hk) rfl ?_
  refine wp_if_le (pc := 4) (tgt := 61) dX9_dropFirst_4 (by decide) (fun z => absurd z (by rw [q1]; exact nI_nle hq0 (by omega))) (fun _ => ?_)
  refine wp_iconst (pc := 7) (v := 1) dX9_dropFirst_7 (by decide) ?_
  refine wp_istore_n (pc := 8) (lv' := [_, _]) dX9_dropFirst_8 rfl (Nat.le_of_ble_eq_true rfl) rfl rfl ?_
  exact loop 0 (Nat.zero_le _) h hR
theorem c_dropLateFirst {t : Nat} (c : Int64) (hR : RH G hp A M h) (ht : t < nx (M.1 11)) (hk : M.2.1 12 t = 4) (hTI : thI M t) : SpN l G mX9_dropLateFirst [.ref (A.1 7 t), .long c] h (fun h' => RH G hp A (lkQ M t c) h') := by
  refine Sp.intro (lv := [_, _, _]) (by decide) rfl (Nat.le_of_ble_eq_true rfl) ?_
  refine wp_widen (rc' := 0) (rs' := 0) (Nat.le_refl _) (Nat.le_refl _) ?_
  refine wp_aload_n (pc := 0) dX9_dropLateFirst_0 rfl rfl ?_
  refine wp_get (pc := 1) dX9_dropLateFirst_1 fl_X9_19_10 (hR.thW ht hk) rfl ?_
  refine wp_if_eq (pc := 4) (tgt := 20) dX9_dropLateFirst_4 (by decide) (fun c4 => ?_) (fun c4 => ?_)
  · skip
    exact wp_vret (pc := 20) dX9_dropLateFirst_20 rfl ⟨rfl, by unfold lkQ; rw [if_pos c4]; exact hR⟩
  · have e19 := hR.2.2.2.2.2 t ht c4
    refine wp_aload_n (pc := 7) dX9_dropLateFirst_7 rfl rfl ?_
    refine wp_get (pc := 8) dX9_dropLateFirst_8 fl_X9_23_10 (hR.thW ht hk) rfl ?_
    refine wp_lload_n (pc := 11) dX9_dropLateFirst_11 rfl rfl ?_
    refine wp_lcmp_gt (pc := 12) (tgt := 20) dX9_dropLateFirst_12 dX9_dropLateFirst_13 (by decide) (fun c12 => ?_) (fun c12 => ?_)
    · rw [e19] at c12
      exact wp_vret (pc := 20) dX9_dropLateFirst_20 rfl ⟨rfl, by unfold lkQ; rw [if_neg c4, if_pos c12]; exact hR⟩
    · rw [e19] at c12
      refine wp_aload_n (pc := 16) dX9_dropLateFirst_16 rfl rfl ?_
      refine wc_VN (pc := 17) (μ2 := mX9_dropFirst) (rc := 0) (rs := 0) [] dX9_dropLateFirst_17 rfl (hR.thW ht hk) rfl cv_X9_37_10 rfl ⟨(Nat.le_of_ble_eq_true rfl), (Nat.le_of_ble_eq_true rfl)⟩ (Nat.le_of_ble_eq_true rfl) (c_dropFirst l G hR ht hk hTI (hTI.2.2.2.2.1 c4)) (fun h q => ?_)
      have hR := q
      exact wp_vret (pc := 20) dX9_dropLateFirst_20 rfl ⟨rfl, by unfold lkQ; rw [if_neg c4, if_neg c12]; exact hR⟩
theorem lkR_n {M : MS} {t : Nat} (h : gof M t (M.2.1 15 t) (nx (M.2.1 21 t)) = none) : lkR M t = sI M 15 t (-1) := by
  unfold lkR
  by_cases z : M.2.1 15 t = -1
  · rw [if_pos z, sI_self z]
  · rw [if_neg z, h]; exact if_pos rfl
theorem lkR_s {M : MS} {t i : Nat} (h : gof M t (M.2.1 15 t) (nx (M.2.1 21 t)) = some i) (hi : i < 2 ^ 31) : lkR M t = M := by
  unfold lkR
  by_cases z : M.2.1 15 t = -1
  · rw [if_pos z]
  · rw [if_neg z, h]; exact if_neg (nI_m1 hi)
theorem c_dropLoneRiser {t : Nat} (hR : RH G hp A M h) (hT : tidy M) (ht : t < nx (M.1 11)) (hk : M.2.1 12 t = 3) : SpN l G mX6_dropLoneRiser [.ref (A.1 7 t)] h (fun h' => RH G hp A (lkR M t) h') := by
  refine Sp.intro (lv := [_]) (by decide) rfl (Nat.le_of_ble_eq_true rfl) ?_
  refine wp_widen (rc' := 0) (rs' := 0) (Nat.le_refl _) (Nat.le_refl _) ?_
  have h20 := hT.1 t ht
  refine wp_aload_n (pc := 0) dX6_dropLoneRiser_0 rfl rfl ?_
  refine wp_aload_n (pc := 1) dX6_dropLoneRiser_1 rfl rfl ?_
  refine wp_get (pc := 2) dX6_dropLoneRiser_2 fl_X6_9_7 (hR.thR ht hk) rfl ?_
  refine wc_UP (pc := 5) (μ2 := mX4_grantOf) (rc := 0) (rs := 0) [_] dX6_dropLoneRiser_5 rfl (hR.thR ht hk) rfl cu_X6_28_7 rfl ⟨(Nat.le_of_ble_eq_true rfl), (Nat.le_of_ble_eq_true rfl)⟩ (Nat.le_of_ble_eq_true rfl) (c_grantOf l G _ hR hT ht) ?_
  refine wp_ifnonnull (pc := 8) (tgt := 16) dX6_dropLoneRiser_8 (by decide) (fun a8 c8 => ?_) (fun c8 => ?_)
  · skip
    exact wp_vret (pc := 16) dX6_dropLoneRiser_16 rfl ⟨rfl, by obtain ⟨i, g0, hi, -⟩ := gGr_s c8; rw [lkR_s g0 (by omega)]; exact hR⟩
  · skip
    refine wp_aload_n (pc := 11) dX6_dropLoneRiser_11 rfl rfl ?_
    refine wp_iconst (pc := 12) (v := (-1)) dX6_dropLoneRiser_12 (by decide) ?_
    refine wp_putC (pc := 13) dX6_dropLoneRiser_13 fl_X6_9_7 (hR.thR ht hk) (Or.inl rfl) (Nat.le_of_ble_eq_true rfl) rfl rfl rfl (fun h hq1 hq2 => ?_)
    have hR := RH.k7 (A' := A) hR (M' := sI M 15 t (-1)) ((chg.refl _ _ _ _).sI (by decide) _) (vl_7.mpr ht) hR.2.2.2.2.2 ⟨rfl, rfl, rfl, fun _ _ => rfl⟩ (by rw [hq1]; simp [cc, cTh, tEx, lng, tci, sI, sL, fu, hk]) hq2
    exact wp_vret (pc := 16) dX6_dropLoneRiser_16 rfl ⟨rfl, by rw [lkR_n (gGr_n c8)]; exact hR⟩
theorem c_numberAnew {t a : Nat} (c : Int64) (hR : RH G hp A M h) (hT : tidy M) (ht : t < nx (M.1 11)) (ha : a < nx (M.2.1 21 t)) : SpN l G mX4_numberAnew [.ref (A.1 7 t), .ref (A.1 8 (20 * t + a)), .long c] h (fun h' => RH G hp A (sL (sL (sL M 18 t (M.2.2 18 t + 1)) 25 (20 * t + a) (M.2.2 18 t + 1)) 26 (20 * t + a) (c + (lng M t).toInt64)) h') := by
  refine Sp.intro (lv := [_, _, _, _]) (by decide) rfl (Nat.le_of_ble_eq_true rfl) ?_
  refine wp_widen (rc' := 0) (rs' := 0) (Nat.le_refl _) (Nat.le_refl _) ?_
  have h20 := hT.1 t ht
  refine wp_aload_n (pc := 0) dX4_numberAnew_0 rfl rfl ?_
  refine wp_dup (pc := 1) dX4_numberAnew_1 rfl ?_
  refine wp_getT (pc := 2) dX4_numberAnew_2 ft_X4_18 (hR.th ht) rfl ?_
  refine wp_lconst (pc := 5) (v := 1) dX4_numberAnew_5 (by decide) ?_
  refine wp_ladd (pc := 6) dX4_numberAnew_6 ?_
  refine wp_putT (pc := 7) dX4_numberAnew_7 ft_X4_18 (hR.th ht) (pT4 _) (by simp) (fun h hq1 hq2 => ?_)
  have hR := RH.k7 (A' := A) hR (M' := sL M 18 t (M.2.2 18 t + 1)) ((chg.refl _ _ _ _).sL (by decide) _) (vl_7.mpr ht) (fun t' ht' hn => hR.2.2.2.2.2 t' ht' hn) ⟨rfl, rfl, rfl, fun _ _ => rfl⟩ (by rw [hq1]; show _ = some (cTh G A (sL M 18 t (M.2.2 18 t + 1)) t); unfold cTh; rw [sL_at, if_pos ⟨rfl, rfl⟩]; rfl) hq2
  have hT : tidy (sL M 18 t (M.2.2 18 t + 1)) := tidy_of rfl rfl hT
  refine wp_aload_n (pc := 10) dX4_numberAnew_10 rfl rfl ?_
  refine wp_aload_n (pc := 11) dX4_numberAnew_11 rfl rfl ?_
  refine wp_getT (pc := 12) dX4_numberAnew_12 ft_X4_18 (hR.th ht) rfl ?_
  rw [sL_at, if_pos ⟨rfl, rfl⟩]
  refine wp_putC (pc := 15) dX4_numberAnew_15 fl_X4_59_2 (hR.gi hT ht ha) (Or.inl rfl) (Nat.le_of_ble_eq_true rfl) rfl rfl rfl (fun h hq1 hq2 => ?_)
  have hR := hR.k8 (M' := sL (sL M 18 t (M.2.2 18 t + 1)) 25 (20 * t + a) (M.2.2 18 t + 1)) ((chg.refl _ _ _ _).sL (by decide) _) (vl8 (by omega) ht ha) (by rw [hq1]; simp [cc, cGr, sI, sL, sS, fu]) hq2
  refine wp_aload_n (pc := 18) dX4_numberAnew_18 rfl rfl ?_
  refine wp_lload_n (pc := 19) dX4_numberAnew_19 rfl rfl ?_
  refine wp_aload_n (pc := 20) dX4_numberAnew_20 rfl rfl ?_
  refine wp_getT (pc := 21) dX4_numberAnew_21 ft_X4_29 (hR.th ht) rfl ?_
  rw [show lng (sL (sL M 18 t (M.2.2 18 t + 1)) 25 (20 * t + a) (M.2.2 18 t + 1)) t = lng M t from rfl]
  refine wp_i2l (pc := 24) dX4_numberAnew_24 ?_
  refine wp_ladd (pc := 25) dX4_numberAnew_25 ?_
  refine wp_putC (pc := 26) dX4_numberAnew_26 fl_X4_63_2 (hR.gi hT ht ha) (Or.inl rfl) (Nat.le_of_ble_eq_true rfl) rfl rfl rfl (fun h hq1 hq2 => ?_)
  have hR := hR.k8 (M' := sL (sL (sL M 18 t (M.2.2 18 t + 1)) 25 (20 * t + a) (M.2.2 18 t + 1)) 26 (20 * t + a) ((c + (lng M t).toInt64))) ((chg.refl _ _ _ _).sL (by decide) _) (vl8 (by omega) ht ha) (by rw [hq1]; simp [cc, cGr, sI, sL, sS, fu]) hq2
  exact wp_vret (pc := 29) dX4_numberAnew_29 rfl ⟨rfl, hR⟩
theorem grt_eq {M : MS} {t a : Nat} : grtM M t a = sS (sL (sL (sL M 18 t (M.2.2 18 t + 1)) 25 (20 * t + a) (M.2.2 18 t + 1)) 26 (20 * t + a) (kClk M (nx (M.1 27)) + (lng M t).toInt64)) 49 (M.1 49 + 1) := by
  unfold grtM
  simp only [sL_at, true_and, and_self, if_true]
  rfl
theorem c_giveNumber {t a : Nat} (hR : RH G hp A M h) (hT : tidy M) (ht : t < nx (M.1 11)) (ha : a < nx (M.2.1 21 t)) : SpN l G mX11_giveNumber [.ref (A.1 0 0), .ref (A.1 7 t), .ref (A.1 8 (20 * t + a)), .long (kClk M (nx (M.1 27)))] h (fun h' => RH G hp A (grtM M t a) h') := by
  refine Sp.intro (lv := [_, _, _, _, _]) (by decide) rfl (Nat.le_of_ble_eq_true rfl) ?_
  refine wp_widen (rc' := 0) (rs' := 0) (Nat.le_refl _) (Nat.le_refl _) ?_
  refine wp_aload_n (pc := 0) dX11_giveNumber_0 rfl rfl ?_
  refine wp_aload_n (pc := 1) dX11_giveNumber_1 rfl rfl ?_
  refine wp_lload_n (pc := 2) dX11_giveNumber_2 rfl rfl ?_
  refine wc_TN (pc := 3) (μ2 := mX4_numberAnew) (rc := 0) (rs := 0) [_, _] dX11_giveNumber_3 rfl (hR.th ht) ct_X11_488 rfl ⟨(Nat.le_of_ble_eq_true rfl), (Nat.le_of_ble_eq_true rfl)⟩ (Nat.le_of_ble_eq_true rfl) (c_numberAnew l G _ hR hT ht ha) (fun h q => ?_)
  have hR := q
  refine wp_aload_n (pc := 6) dX11_giveNumber_6 rfl rfl ?_
  refine wp_dup (pc := 7) dX11_giveNumber_7 rfl ?_
  refine wp_get (pc := 8) dX11_giveNumber_8 fl_X11_52_12 hR.bd rfl ?_
  refine wp_iconst (pc := 11) (v := 1) dX11_giveNumber_11 (by decide) ?_
  refine wp_iadd (pc := 12) dX11_giveNumber_12 ?_
  refine wp_putC (pc := 13) dX11_giveNumber_13 fl_X11_52_12 hR.bd (Or.inl rfl) (Nat.le_of_ble_eq_true rfl) rfl rfl rfl (fun h hq1 hq2 => ?_)
  have hR := hR.k0 (M' := sS (sL (sL (sL M 18 t (M.2.2 18 t + 1)) 25 (20 * t + a) (M.2.2 18 t + 1)) 26 (20 * t + a) (kClk M (nx (M.1 27)) + (lng M t).toInt64)) 49 (M.1 49 + 1)) rfl rfl rfl rfl rfl rfl hq1 hq2
  exact wp_vret (pc := 16) dX11_giveNumber_16 rfl ⟨rfl, by rw [grt_eq]; exact hR⟩
end K19
