/-! ===== the class: what changes in place ===== -/
theorem ms_ext {A B : MS} (h1 : ∀ k, A.1 k = B.1 k) (h2 : ∀ k j, A.2.1 k j = B.2.1 k j) (h3 : ∀ k j, A.2.2 k j = B.2.2 k j) : A = B := by
  obtain ⟨a, b, c⟩ := A
  obtain ⟨a', b', c'⟩ := B
  have e1 : a = a' := funext h1
  have e2 : b = b' := funext fun k => funext fun j => h2 k j
  have e3 : c = c' := funext fun k => funext fun j => h3 k j
  rw [e1, e2, e3]
theorem sS_at (M : MS) (k : Nat) (v : Int32) (k' : Nat) : (sS M k v).1 k' = if k' = k then v else M.1 k' := rfl
theorem sI_at (M : MS) (k j : Nat) (v : Int32) (k' j' : Nat) : (sI M k j v).2.1 k' j' = if k' = k ∧ j' = j then v else M.2.1 k' j' := by
  by_cases h1 : k' = k
  · subst h1
    by_cases h2 : j' = j
    · subst h2; simp [sI, fu]
    · simp [sI, fu, h2]
  · simp [sI, fu, h1]
theorem sL_at (M : MS) (k j : Nat) (v : Int64) (k' j' : Nat) : (sL M k j v).2.2 k' j' = if k' = k ∧ j' = j then v else M.2.2 k' j' := by
  by_cases h1 : k' = k
  · subst h1
    by_cases h2 : j' = j
    · subst h2; simp [sL, fu]
    · simp [sL, fu, h2]
  · simp [sL, fu, h1]
theorem sI_1 (M : MS) (k j : Nat) (v : Int32) : (sI M k j v).1 = M.1 := rfl
theorem sL_0 (M : MS) (k j : Nat) (v : Int64) : (sL M k j v).1 = M.1 := rfl
theorem sS_self (M : MS) (k : Nat) : sS M k (M.1 k) = M := ms_ext (fun k' => by rw [sS_at]; split <;> simp_all) (fun _ _ => rfl) (fun _ _ => rfl)
theorem sI_self {M : MS} {k j : Nat} {v : Int32} (h : M.2.1 k j = v) : sI M k j v = M := ms_ext (fun _ => rfl) (fun k' j' => by rw [sI_at]; split <;> simp_all) (fun _ _ => rfl)
theorem sL_self {M : MS} {k j : Nat} {v : Int64} (h : M.2.2 k j = v) : sL M k j v = M := ms_ext (fun _ => rfl) (fun _ _ => rfl) (fun k' j' => by rw [sL_at]; split <;> simp_all)
theorem sS_comm (M : MS) {a b : Nat} (x y : Int32) (h : a ≠ b) : sS (sS M a x) b y = sS (sS M b y) a x := ms_ext (fun k => by simp only [sS_at]; split <;> split <;> simp_all) (fun _ _ => rfl) (fun _ _ => rfl)
section KW
variable {l : Launch} {G : WG} {μ : MI} {Z : WZ} {pc : Nat} {lv : List (Option Value)} {st : List Value} {h : Hp} {rc rs : Nat}
theorem wp_lastC {a n i : Nat} {f : Nat → Int64} {x : Int32} {v : Int64} (hd : decode (mC μ) pc = .ok (.lastore, 1)) (hc : h a = some (aJ n f)) (hx : ix x n i) (kk : ∀ h' : Hp, h' a = some (aJ n (fu f i v)) → (∀ q, q ≠ a → h' q = h q) → wp l G μ Z (pc + 1) lv st h' rc rs) : wp l G μ Z pc lv (.long v :: .int x :: .ref a :: st) h rc rs := wp_last hd hc hx (kk _ (up_s ..) (fun q hq => up_n _ hq))
theorem wp_iastC {a n i : Nat} {f : Nat → Int32} {x v : Int32} (hd : decode (mC μ) pc = .ok (.iastore, 1)) (hc : h a = some (aI n f)) (hx : ix x n i) (kk : ∀ h' : Hp, h' a = some (aI n (fu f i v)) → (∀ q, q ≠ a → h' q = h q) → wp l G μ Z (pc + 1) lv st h' rc rs) : wp l G μ Z pc lv (.int v :: .int x :: .ref a :: st) h rc rs := wp_iast hd hc hx (kk _ (up_s ..) (fun q hq => up_n _ hq))
theorem wp_zastC {a n i : Nat} {f : Nat → Int32} {x v : Int32} (hd : decode (mC μ) pc = .ok (.bastore, 1)) (hc : h a = some (aZ n f)) (hx : ix x n i) (hv : v = 0 ∨ v = 1) (kk : ∀ h' : Hp, h' a = some (aZ n (fu f i v)) → (∀ q, q ≠ a → h' q = h q) → wp l G μ Z (pc + 1) lv st h' rc rs) : wp l G μ Z pc lv (.int v :: .int x :: .ref a :: st) h rc rs := wp_zast hd hc hx hv (kk _ (up_s ..) (fun q hq => up_n _ hq))
end KW
theorem rowJ (M : MS) (k i : Nat) {q : Nat} (hq : q < 20) (v : Int64) : fu (fun t => if t < 20 then M.2.2 k (20 * i + t) else 0) q v = fun t => if t < 20 then (sL M k (20 * i + q) v).2.2 k (20 * i + t) else 0 := by
  funext t
  show (if t = q then v else if t < 20 then M.2.2 k (20 * i + t) else 0) = if t < 20 then (sL M k (20 * i + q) v).2.2 k (20 * i + t) else 0
  rw [sL_at]
  by_cases e : t = q
  · subst e; simp [hq]
  · have e2 : ¬ (k = k ∧ 20 * i + t = 20 * i + q) := fun z => e (by omega)
    rw [if_neg e, if_neg e2]
theorem cat2_rf (r : Option Nat) : cat2 (some (va_rf r)) = false := by cases r <;> rfl
theorem fallM_1 (M : MS) (w : Nat) : ∀ n, (fallM M w n).1 = M.1 ∧ (fallM M w n).2.2 = M.2.2
  | 0 => ⟨rfl, rfl⟩
  | n + 1 => fallM_1 M w n
theorem fallM_k (M : MS) (w : Nat) {k : Nat} (h1 : k ≠ 29) (h2 : k ≠ 32) : ∀ n, (fallM M w n).2.1 k = M.2.1 k
  | 0 => rfl
  | n + 1 => by show (sI (sI (fallM M w n) 29 _ 0) 32 _ 0).2.1 k = _; rw [sI_k _ _ _ h2, sI_k _ _ _ h1]; exact fallM_k M w h1 h2 n
theorem fallM_at (M : MS) (w : Nat) (k : Nat) : ∀ n m, n ≤ m → (fallM M w n).2.1 k (20 * w + m) = M.2.1 k (20 * w + m)
  | 0, _, _ => rfl
  | n + 1, m, h => by
    show (sI (sI (fallM M w n) 29 _ 0) 32 _ 0).2.1 k _ = _
    rw [sI_n _ _ _ _ (by omega), sI_n _ _ _ _ (by omega)]
    exact fallM_at M w k n m (by omega)
theorem fall_z {M : MS} {w N : Nat} (hz : ∀ t, N ≤ t → t < 20 → M.2.1 29 (20 * w + t) = 0 ∧ M.2.1 32 (20 * w + t) = 0) : ∀ d, N + d ≤ 20 → fallM M w (N + d) = fallM M w N ∧ fallN M w (N + d) = fallN M w N
  | 0, _ => ⟨rfl, rfl⟩
  | d + 1, h => by
    obtain ⟨a, b⟩ := fall_z hz d (by omega)
    obtain ⟨z1, z2⟩ := hz (N + d) (by omega) (by omega)
    have e29 : (fallM M w (N + d)).2.1 29 (20 * w + (N + d)) = 0 := by rw [fallM_at M w 29 _ _ (Nat.le_refl _)]; exact z1
    have e32 : (fallM M w (N + d)).2.1 32 (20 * w + (N + d)) = 0 := by rw [fallM_at M w 32 _ _ (Nat.le_refl _)]; exact z2
    constructor
    · show sI (sI (fallM M w (N + d)) 29 (20 * w + (N + d)) 0) 32 (20 * w + (N + d)) 0 = _
      rw [sI_self e29, sI_self e32]; exact a
    · show fallN M w (N + d) + (if (fallM M w (N + d)).2.1 29 (20 * w + (N + d)) = 0 then 0 else 1) = _
      rw [e29, b]; simp
section K8
variable (l : Launch) (G : WG) {hp h : Hp} {A : AD} {M : MS}
theorem k_lose (v : Int32) (hR : RH G hp A M h) (hb : bnd M) : KS l G hp A mX11_lose [.int v] M h (.int (f_lose M v).1) ((f_lose M v).2) := by
  refine Sp.intro (lv := [_, _, _]) (by decide) rfl (Nat.le_of_ble_eq_true rfl) ?_
  refine wp_widen (rc' := 0) (rs' := 0) (Nat.le_refl _) (Nat.le_refl _) ?_
  have hb9 := hb
  unfold bnd at hb9
  refine wp_aload_n (pc := 0) dX11_lose_0 rfl rfl ?_
  refine wp_iload_n (pc := 1) dX11_lose_1 rfl rfl ?_
  refine wc_VP (pc := 2) (μ2 := mX11_letterAt) (rc := 0) (rs := 0) [_] dX11_lose_2 rfl hR.bd rfl cv_X11_205_12 rfl ⟨(Nat.le_of_ble_eq_true rfl), (Nat.le_of_ble_eq_true rfl)⟩ (Nat.le_of_ble_eq_true rfl) (c_letterAt l G _ hR hb) ?_
  refine wp_astore_nQ (pc := 5) (lv' := [_, _, _]) dX11_lose_5 rfl (Nat.le_of_ble_eq_true rfl) rfl rfl ?_
  refine wp_aload_nQ (pc := 6) dX11_lose_6 rfl rfl ?_
  refine wp_ifnonnull (pc := 7) (tgt := 13) dX11_lose_7 (by decide) (fun a7 c7 => ?_) (fun c7 => ?_)
  · obtain ⟨j, hj, rfl, rfl⟩ := oAt_s c7 (by omega)
    rw [oAt_t hj (by omega)]
    have hix := isIx_nI hj (show nx (M.1 35) < 2 ^ 31 by omega)
    have e1 : nx (nI j) = j := nx_nI (by omega)
    refine wp_aload_n (pc := 13) dX11_lose_13 rfl rfl ?_
    refine wp_get (pc := 14) dX11_lose_14 fl_X11_209_3 (hR.lt hj) rfl ?_
    refine wp_if_eq (pc := 17) (tgt := 23) dX11_lose_17 (by decide) (fun c17 => ?_) (fun c17 => ?_)
    · skip
      refine wp_aload_n (pc := 23) dX11_lose_23 rfl rfl ?_
      refine wp_iconst (pc := 24) (v := 2) dX11_lose_24 (by decide) ?_
      refine wp_putC (pc := 25) dX11_lose_25 fl_X11_209_3 (hR.lt hj) (Or.inl rfl) (Nat.le_of_ble_eq_true rfl) rfl rfl rfl (fun h hq1 hq2 => ?_)
      have hR := hR.k9 (M' := sI (M) 42 (j) (2)) ((chg.refl _ _ _ _).sI (by decide) _) (vl_9.mpr hj) (by rw [hq1]; simp [cc, cLt, sI, sL, sS, fu]) hq2
      refine wp_iconst (pc := 28) (v := 1) dX11_lose_28 (by decide) ?_
      exact wp_iret (pc := 29) dX11_lose_29 rfl ⟨_, rfl, by simp only [f_lose, hix, e1, eq_true c17, if_true, if_false, Bool.true_eq_false, Bool.false_eq_true, reduceIte, reduceCtorEq, Bool.not_true, Bool.not_false, true_and, and_true, and_false, false_and, or_true, true_or, or_false, false_or, not_true_eq_false, not_false_eq_true], A, by simp only [f_lose, hix, e1, eq_true c17, if_true, if_false, Bool.true_eq_false, Bool.false_eq_true, reduceIte, reduceCtorEq, Bool.not_true, Bool.not_false, true_and, and_true, and_false, false_and, or_true, true_or, or_false, false_or, not_true_eq_false, not_false_eq_true] <;> exact hR, ext.refl A M⟩
    · skip
      refine wp_bipush (pc := 20) (v := (-3)) dX11_lose_20 (by decide) ?_
      exact wp_iret (pc := 22) dX11_lose_22 rfl ⟨_, rfl, by simp only [f_lose, hix, e1, eq_false c17, if_true, if_false, Bool.true_eq_false, Bool.false_eq_true, reduceIte, reduceCtorEq, Bool.not_true, Bool.not_false, true_and, and_true, and_false, false_and, or_true, true_or, or_false, false_or, not_true_eq_false, not_false_eq_true], A, by simp only [f_lose, hix, e1, eq_false c17, if_true, if_false, Bool.true_eq_false, Bool.false_eq_true, reduceIte, reduceCtorEq, Bool.not_true, Bool.not_false, true_and, and_true, and_false, false_and, or_true, true_or, or_false, false_or, not_true_eq_false, not_false_eq_true] <;> exact hR, ext.refl A M⟩
  · skip
    refine wp_bipush (pc := 10) (v := (-2)) dX11_lose_10 (by decide) ?_
    exact wp_iret (pc := 12) dX11_lose_12 rfl ⟨_, rfl, by unfold f_lose; rw [if_pos (oAt_n c7)], A, by unfold f_lose; rw [if_pos (oAt_n c7)]; exact hR, ext.refl A M⟩
theorem write_2 {M : MS} {A : AD} {w v s : Int32} {y : Int64} (h : mAt A M w v = none) : f_write M w v s y = (-2, M) := by
  unfold f_write
  cases h1 : isIx w (nx (M.1 6)) with
  | false => rw [if_pos rfl]
  | true => rw [if_neg (by decide), if_pos (mAt_n h h1)]
theorem write_3 {M : MS} {w v s : Int32} {y : Int64} (h1 : isIx w (nx (M.1 6)) = true) (h2 : isIx v (nx (M.1 11)) = true) (h3 : isIx s (nx (M.1 46)) = false) : f_write M w v s y = (-2, M) := by
  unfold f_write
  rw [if_neg (by rw [h1]; decide), if_neg (by rw [h2]; decide), if_pos h3]
theorem k_write (w v st : Int32) (y : Int64) (hR : RH G hp A M h) (hb : bnd M) (hS : M.1 46 = nI (nx (M.1 46))) : KS l G hp A mX11_write [.int w, .int v, .int st, .long y] M h (.int (f_write M w v st y).1) ((f_write M w v st y).2) := by
  refine Sp.intro (lv := [_, _, _, _, _, _, _, _]) (by decide) rfl (Nat.le_of_ble_eq_true rfl) ?_
  refine wp_widen (rc' := 0) (rs' := 0) (Nat.le_refl _) (Nat.le_refl _) ?_
  have hb9 := hb
  unfold bnd at hb9
  refine wp_aload_n (pc := 0) dX11_write_0 rfl rfl ?_
  refine wp_iload_n (pc := 1) dX11_write_1 rfl rfl ?_
  refine wc_VP (pc := 2) (μ2 := mX11_workerAt) (rc := 0) (rs := 0) [_] dX11_write_2 rfl hR.bd rfl cv_X11_127_12 rfl ⟨(Nat.le_of_ble_eq_true rfl), (Nat.le_of_ble_eq_true rfl)⟩ (Nat.le_of_ble_eq_true rfl) (c_workerAt l G _ hR hb) ?_
  refine wp_astoreQ (pc := 5) (lv' := [_, _, _, _, _, _, _, _]) dX11_write_5 (Nat.le_of_ble_eq_true rfl) rfl rfl ?_
  refine wp_aload_n (pc := 7) dX11_write_7 rfl rfl ?_
  refine wp_iload_n (pc := 8) dX11_write_8 rfl rfl ?_
  refine wp_iload_n (pc := 9) dX11_write_9 rfl rfl ?_
  refine wc_VP (pc := 10) (μ2 := mX11_memoryAt) (rc := 0) (rs := 0) [_, _] dX11_write_10 rfl hR.bd rfl cv_X11_186_12 rfl ⟨(Nat.le_of_ble_eq_true rfl), (Nat.le_of_ble_eq_true rfl)⟩ (Nat.le_of_ble_eq_true rfl) (c_memoryAt l G _ _ hR hb) ?_
  refine wp_astoreQ (pc := 13) (lv' := [_, _, _, _, _, _, _, _]) dX11_write_13 (Nat.le_of_ble_eq_true rfl) (by simp [lv9, cat2_rf]) rfl ?_
  refine wp_aloadQ (pc := 15) dX11_write_15 rfl ?_
  refine wp_ifnull (pc := 17) (tgt := 34) dX11_write_17 (by decide) (fun c17 => ?_) (fun a17 c17 => ?_)
  · skip
    refine wp_bipush (pc := 34) (v := (-2)) dX11_write_34 (by decide) ?_
    exact wp_iret (pc := 36) dX11_write_36 rfl ⟨_, rfl, by unfold f_write; rw [if_pos (oAt_n c17)], A, by unfold f_write; rw [if_pos (oAt_n c17)]; exact hR, ext.refl A M⟩
  · obtain ⟨i, hi, rfl, rfl⟩ := oAt_s c17 (by omega)
    rw [oAt_t hi (by omega)]
    have i1 := isIx_nI hi (show nx (M.1 6) < 2 ^ 31 by omega)
    have e1 : nx (nI i) = i := nx_nI (by omega)
    refine wp_aloadQ (pc := 20) dX11_write_20 rfl ?_
    refine wp_ifnull (pc := 22) (tgt := 34) dX11_write_22 (by decide) (fun c22 => ?_) (fun a22 c22 => ?_)
    · skip
      refine wp_bipush (pc := 34) (v := (-2)) dX11_write_34 (by decide) ?_
      exact wp_iret (pc := 36) dX11_write_36 rfl ⟨_, rfl, by rw [write_2 c22], A, by rw [write_2 c22]; exact hR, ext.refl A M⟩
    · obtain ⟨k2, j, hk2, hj, ei, rfl, rfl⟩ := mAt_s hb c22
      obtain rfl : i = k2 := (nI_eq (by omega) (by omega)).mp ei
      rw [mAt_t hb hi hj]
      have i2 := isIx_nI hj (show nx (M.1 11) < 2 ^ 31 by omega)
      have e2 : nx (nI j) = j := nx_nI (by omega)
      refine wp_aload_n (pc := 25) dX11_write_25 rfl rfl ?_
      refine wp_iload_n (pc := 26) dX11_write_26 rfl rfl ?_
      refine wp_iload_n (pc := 27) dX11_write_27 rfl rfl ?_
      refine wc_VP (pc := 28) (μ2 := mX11_isStored) (rc := 0) (rs := 0) [_, _] dX11_write_28 rfl hR.bd rfl cv_X11_309_12 rfl ⟨(Nat.le_of_ble_eq_true rfl), (Nat.le_of_ble_eq_true rfl)⟩ (Nat.le_of_ble_eq_true rfl) (c_isStored l G _ _ hR hb hS) ?_
      refine wp_ifB_ne (pc := 31) (tgt := 37) dX11_write_31 (by decide) (fun c31 => ?_) (fun c31 => ?_)
      · rw [Bool.and_eq_true] at c31
        have i3 := c31.1
        obtain ⟨s, hs, rfl⟩ := isIx_t i3 (by omega)
        have e3 : nx (nI s) = s := nx_nI (by omega)
        refine wp_aload (pc := 37) dX11_write_37 rfl ?_
        refine wp_get (pc := 39) dX11_write_39 fl_X11_143_11 (hR.wk hi) rfl ?_
        refine wp_if_eq (pc := 42) (tgt := 62) dX11_write_42 (by decide) (fun c42 => ?_) (fun c42 => ?_)
        · skip
          refine wp_bipush (pc := 62) (v := (-3)) dX11_write_62 (by decide) ?_
          exact wp_iret (pc := 64) dX11_write_64 rfl ⟨_, rfl, by simp only [f_write, e1, e2, e3, i1, i2, i3, eq_true c42, if_true, if_false, Bool.true_eq_false, Bool.false_eq_true, reduceIte, reduceCtorEq, Bool.not_true, Bool.not_false, true_and, and_true, and_false, false_and, or_true, true_or, or_false, false_or, not_true_eq_false, not_false_eq_true], A, by simp only [f_write, e1, e2, e3, i1, i2, i3, eq_true c42, if_true, if_false, Bool.true_eq_false, Bool.false_eq_true, reduceIte, reduceCtorEq, Bool.not_true, Bool.not_false, true_and, and_true, and_false, false_and, or_true, true_or, or_false, false_or, not_true_eq_false, not_false_eq_true] <;> exact hR, ext.refl A M⟩
        · skip
          refine wp_aload (pc := 45) dX11_write_45 rfl ?_
          refine wp_get (pc := 47) dX11_write_47 fl_X11_135_4 (hR.mm (i := 20 * i + j) (by omega)) rfl ?_
          refine wp_if_eq (pc := 50) (tgt := 62) dX11_write_50 (by decide) (fun c50 => ?_) (fun c50 => ?_)
          · skip
            refine wp_bipush (pc := 62) (v := (-3)) dX11_write_62 (by decide) ?_
            exact wp_iret (pc := 64) dX11_write_64 rfl ⟨_, rfl, by simp only [f_write, e1, e2, e3, i1, i2, i3, eq_false c42, eq_true c50, if_true, if_false, Bool.true_eq_false, Bool.false_eq_true, reduceIte, reduceCtorEq, Bool.not_true, Bool.not_false, true_and, and_true, and_false, false_and, or_true, true_or, or_false, false_or, not_true_eq_false, not_false_eq_true], A, by simp only [f_write, e1, e2, e3, i1, i2, i3, eq_false c42, eq_true c50, if_true, if_false, Bool.true_eq_false, Bool.false_eq_true, reduceIte, reduceCtorEq, Bool.not_true, Bool.not_false, true_and, and_true, and_false, false_and, or_true, true_or, or_false, false_or, not_true_eq_false, not_false_eq_true] <;> exact hR, ext.refl A M⟩
          · skip
            refine wp_aload (pc := 53) dX11_write_53 rfl ?_
            refine wp_get (pc := 55) dX11_write_55 fl_X11_190_4 (hR.mm (i := 20 * i + j) (by omega)) rfl ?_
            refine wp_iconst (pc := 58) (v := 1) dX11_write_58 (by decide) ?_
            refine wp_icmp_ne (pc := 59) (tgt := 65) dX11_write_59 (by decide) (fun c59 => ?_) (fun c59 => ?_)
            · skip
              refine wp_aload (pc := 65) dX11_write_65 rfl ?_
              refine wp_get (pc := 67) dX11_write_67 fl_X11_196_4 (hR.mm (i := 20 * i + j) (by omega)) rfl ?_
              refine wp_aload_n (pc := 70) dX11_write_70 rfl rfl ?_
              refine wp_get (pc := 71) dX11_write_71 fl_X11_27_12 hR.bd rfl ?_
              refine wp_iload_n (pc := 74) dX11_write_74 rfl rfl ?_
              refine wp_aald (pc := 75) (i := s) (Or.inr (Or.inr (Or.inr rfl))) dX11_write_75 hR.go ⟨rfl, by omega, by decide⟩ ?_
              rw [lstF_i _ (by omega)]
              refine wp_iload_n (pc := 76) dX11_write_76 rfl rfl ?_
              refine wp_lald (pc := 77) (i := j) dX11_write_77 (hR.gs (i := s) (by omega)) ⟨rfl, by omega, by decide⟩ ?_
              refine wp_lcmp_ge (pc := 78) (tgt := 94) dX11_write_78 dX11_write_79 (by decide) (fun c78 => ?_) (fun c78 => ?_)
              · rw [if_pos (show j < 20 by omega)] at c78
                refine wp_aload_n (pc := 94) dX11_write_94 rfl rfl ?_
                refine wp_get (pc := 95) dX11_write_95 fl_X11_27_12 hR.bd rfl ?_
                refine wp_iload_n (pc := 98) dX11_write_98 rfl rfl ?_
                refine wp_aald (pc := 99) (i := s) (Or.inr (Or.inr (Or.inr rfl))) dX11_write_99 hR.go ⟨rfl, by omega, by decide⟩ ?_
                rw [lstF_i _ (by omega)]
                refine wp_iload_n (pc := 100) dX11_write_100 rfl rfl ?_
                refine wp_aload (pc := 101) dX11_write_101 rfl ?_
                refine wp_get (pc := 103) dX11_write_103 fl_X11_196_4 (hR.mm (i := 20 * i + j) (by omega)) rfl ?_
                refine wp_lastC (pc := 106) (i := j) dX11_write_106 (hR.gs (i := s) (by omega)) ⟨rfl, by omega, by decide⟩ (fun h hq1 hq2 => ?_)
                have hR := hR.k12 (M' := sL (M) 47 (20 * s + j) (M.2.2 33 (20 * i + j))) ((chg.refl _ _ _ _).sL (by decide) _) (vl_12.mpr (by omega)) (by omega) (by rw [hq1]; exact congrArg some (congrArg (aJ 20) (rowJ _ 47 s (by omega) _))) hq2
                refine wp_aload_n (pc := 107) dX11_write_107 rfl rfl ?_
                refine wp_get (pc := 108) dX11_write_108 fl_X11_30_12 hR.bd rfl ?_
                refine wp_iload_n (pc := 111) dX11_write_111 rfl rfl ?_
                refine wp_aald (pc := 112) (i := s) (Or.inr (Or.inr (Or.inr rfl))) dX11_write_112 hR.wo ⟨rfl, by omega, by decide⟩ ?_
                rw [lstF_i _ (by omega)]
                refine wp_iload_n (pc := 113) dX11_write_113 rfl rfl ?_
                refine wp_lload (pc := 114) dX11_write_114 rfl ?_
                refine wp_lastC (pc := 116) (i := j) dX11_write_116 (hR.ws (i := s) (by omega)) ⟨rfl, by omega, by decide⟩ (fun h hq1 hq2 => ?_)
                have hR := hR.k14 (M' := sL (sL (M) 47 (20 * s + j) (M.2.2 33 (20 * i + j))) 48 (20 * s + j) (y)) ((chg.refl _ _ _ _).sL (by decide) _) (vl_14.mpr (by omega)) (by omega) (by rw [hq1]; exact congrArg some (congrArg (aJ 20) (rowJ _ 48 s (by omega) _))) hq2
                refine wp_iconst (pc := 117) (v := 1) dX11_write_117 (by decide) ?_
                exact wp_iret (pc := 118) dX11_write_118 rfl ⟨_, rfl, by simp only [f_write, e1, e2, e3, i1, i2, i3, eq_false c42, eq_false c50, eq_false c59, eq_true c78, if_true, if_false, Bool.true_eq_false, Bool.false_eq_true, reduceIte, reduceCtorEq, Bool.not_true, Bool.not_false, true_and, and_true, and_false, false_and, or_true, true_or, or_false, false_or, not_true_eq_false, not_false_eq_true], A, by simp only [f_write, e1, e2, e3, i1, i2, i3, eq_false c42, eq_false c50, eq_false c59, eq_true c78, if_true, if_false, Bool.true_eq_false, Bool.false_eq_true, reduceIte, reduceCtorEq, Bool.not_true, Bool.not_false, true_and, and_true, and_false, false_and, or_true, true_or, or_false, false_or, not_true_eq_false, not_false_eq_true] <;> exact hR, ext.refl A M⟩
              · rw [if_pos (show j < 20 by omega)] at c78
                refine wp_aload_n (pc := 82) dX11_write_82 rfl rfl ?_
                refine wp_dup (pc := 83) dX11_write_83 rfl ?_
                refine wp_get (pc := 84) dX11_write_84 fl_X11_64_12 hR.bd rfl ?_
                refine wp_iconst (pc := 87) (v := 1) dX11_write_87 (by decide) ?_
                refine wp_iadd (pc := 88) dX11_write_88 ?_
                refine wp_putC (pc := 89) dX11_write_89 fl_X11_64_12 hR.bd (Or.inl rfl) (Nat.le_of_ble_eq_true rfl) rfl rfl rfl (fun h hq1 hq2 => ?_)
                have hR := hR.k0 (M' := sS (M) 53 ((M).1 53 + 1)) rfl rfl rfl rfl rfl rfl hq1 hq2
                refine wp_iconst (pc := 92) (v := 0) dX11_write_92 (by decide) ?_
                exact wp_iret (pc := 93) dX11_write_93 rfl ⟨_, rfl, by simp only [f_write, e1, e2, e3, i1, i2, i3, eq_false c42, eq_false c50, eq_false c59, eq_false c78, if_true, if_false, Bool.true_eq_false, Bool.false_eq_true, reduceIte, reduceCtorEq, Bool.not_true, Bool.not_false, true_and, and_true, and_false, false_and, or_true, true_or, or_false, false_or, not_true_eq_false, not_false_eq_true], A, by simp only [f_write, e1, e2, e3, i1, i2, i3, eq_false c42, eq_false c50, eq_false c59, eq_false c78, if_true, if_false, Bool.true_eq_false, Bool.false_eq_true, reduceIte, reduceCtorEq, Bool.not_true, Bool.not_false, true_and, and_true, and_false, false_and, or_true, true_or, or_false, false_or, not_true_eq_false, not_false_eq_true] <;> exact hR, ext.refl A M⟩
            · skip
              refine wp_bipush (pc := 62) (v := (-3)) dX11_write_62 (by decide) ?_
              exact wp_iret (pc := 64) dX11_write_64 rfl ⟨_, rfl, by simp only [f_write, e1, e2, e3, i1, i2, i3, eq_false c42, eq_false c50, eq_true c59, if_true, if_false, Bool.true_eq_false, Bool.false_eq_true, reduceIte, reduceCtorEq, Bool.not_true, Bool.not_false, true_and, and_true, and_false, false_and, or_true, true_or, or_false, false_or, not_true_eq_false, not_false_eq_true], A, by simp only [f_write, e1, e2, e3, i1, i2, i3, eq_false c42, eq_false c50, eq_true c59, if_true, if_false, Bool.true_eq_false, Bool.false_eq_true, reduceIte, reduceCtorEq, Bool.not_true, Bool.not_false, true_and, and_true, and_false, false_and, or_true, true_or, or_false, false_or, not_true_eq_false, not_false_eq_true] <;> exact hR, ext.refl A M⟩
      · skip
        refine wp_bipush (pc := 34) (v := (-2)) dX11_write_34 (by decide) ?_
        exact wp_iret (pc := 36) dX11_write_36 rfl ⟨_, rfl, by rw [write_3 i1 i2 (by simpa [i2] using c31)], A, by rw [write_3 i1 i2 (by simpa [i2] using c31)]; exact hR, ext.refl A M⟩
theorem nb {v : Int32} (h : v = 0 ∨ v = 1) : narrow .boolean (.int v) = .int v := by rcases h with rfl | rfl <;> rfl
theorem nf {v : Int32} (h : v = 0 ∨ v = 1) : fits .boolean (.int v) = true := by rcases h with rfl | rfl <;> rfl
theorem k_wake (what who is : Int32) (hR : RH G hp A M h) (hb : bnd M) (his : is = 0 ∨ is = 1) : KS l G hp A mX11_wake [.int what, .int who, .int is] M h (.int (f_wake M what who is).1) ((f_wake M what who is).2) := by
  refine Sp.intro (lv := [_, _, _, _, _, _]) (by decide) rfl (Nat.le_of_ble_eq_true rfl) ?_
  refine wp_widen (rc' := 0) (rs' := 0) (Nat.le_refl _) (Nat.le_refl _) ?_
  have hb9 := hb
  unfold bnd at hb9
  refine wp_aload_n (pc := 0) dX11_wake_0 rfl rfl ?_
  refine wp_iload_n (pc := 1) dX11_wake_1 rfl rfl ?_
  refine wp_iload_n (pc := 2) dX11_wake_2 rfl rfl ?_
  refine wc_VP (pc := 3) (μ2 := mX11_partyAt) (rc := 0) (rs := 0) [_, _] dX11_wake_3 rfl hR.bd rfl cv_X11_113_12 rfl ⟨(Nat.le_of_ble_eq_true rfl), (Nat.le_of_ble_eq_true rfl)⟩ (Nat.le_of_ble_eq_true rfl) (c_partyAt l G _ _ hR hb) ?_
  refine wp_astoreQ (pc := 6) (lv' := [_, _, _, _, _, _]) dX11_wake_6 (Nat.le_of_ble_eq_true rfl) rfl rfl ?_
  refine wp_aloadQ (pc := 8) dX11_wake_8 rfl ?_
  refine wp_ifnonnull (pc := 10) (tgt := 16) dX11_wake_10 (by decide) (fun a10 c10 => ?_) (fun c10 => ?_)
  · skip
    rcases pAt_s hb c10 with ⟨h0, j, hj, rfl, rfl⟩ | ⟨h0, h1, j, hj, rfl, rfl⟩
    · rw [c10]
      have hf : f_wake M what (nI j) is = (if M.2.1 5 j = is then 0 else 1, sS (sI M 5 j is) 27 (if M.1 27 = nI j ∧ is = 0 then -1 else M.1 27)) := by unfold f_wake; rw [if_pos ⟨h0, isIx_nI hj (by omega)⟩, nx_nI (show j < 2 ^ 31 by omega)]
      refine wp_aload (pc := 16) dX11_wake_16 rfl ?_
      refine wp_get (pc := 18) dX11_wake_18 fl_X11_123_6 (hR.kp hj) rfl ?_
      refine wp_istore (pc := 21) (lv' := [_, _, _, _, _, _]) dX11_wake_21 (Nat.le_of_ble_eq_true rfl) rfl rfl ?_
      refine wp_aload (pc := 23) dX11_wake_23 rfl ?_
      refine wp_iload_n (pc := 25) dX11_wake_25 rfl rfl ?_
      refine wp_putC (pc := 26) dX11_wake_26 fl_X11_123_6 (hR.kp hj) (Or.inl rfl) (Nat.le_of_ble_eq_true rfl) (nb his) (nf his) rfl (fun h hq1 hq2 => ?_)
      have hR := hR.k3 (M' := sI (M) 5 (j) (is)) ((chg.refl _ _ _ _).sI (by decide) _) (vl_3.mpr hj) (by rw [hq1]; simp [cc, cKp, sI, sL, sS, fu]) hq2
      refine wp_iload_n (pc := 29) dX11_wake_29 rfl rfl ?_
      refine wp_if_ne (pc := 30) (tgt := 50) dX11_wake_30 (by decide) (fun z => absurd h0 z) (fun _ => ?_)
      refine wp_iload_n (pc := 33) dX11_wake_33 rfl rfl ?_
      refine wp_aload_n (pc := 34) dX11_wake_34 rfl rfl ?_
      refine wp_get (pc := 35) dX11_wake_35 fl_X11_46_12 hR.bd rfl ?_
      refine wp_icmp_ne (pc := 38) (tgt := 50) dX11_wake_38 (by decide) (fun c38 => ?_) (fun c38 => ?_)
      · skip
        refine wp_iload (pc := 50) dX11_wake_50 rfl ?_
        refine wp_iload_n (pc := 52) dX11_wake_52 rfl rfl ?_
        refine wp_icmp_ne (pc := 53) (tgt := 60) dX11_wake_53 (by decide) (fun c53 => ?_) (fun c53 => ?_)
        · skip
          refine wp_iconst (pc := 60) (v := 1) dX11_wake_60 (by decide) ?_
          exact wp_iret (pc := 61) dX11_wake_61 rfl ⟨_, rfl, by rw [hf]; simp only [eq_false c53, if_true, if_false, Bool.true_eq_false, Bool.false_eq_true, reduceIte, reduceCtorEq, Bool.not_true, Bool.not_false, true_and, and_true, and_false, false_and, or_true, true_or, or_false, false_or, not_true_eq_false, not_false_eq_true], A, by rw [hf]; show RH G hp A (sS (sI M 5 j is) 27 (if M.1 27 = nI j ∧ is = 0 then -1 else M.1 27)) h; rw [if_neg (fun z => c38 z.1.symm)]; exact (sS_self (sI M 5 j is) 27).symm ▸ hR, ext.refl A M⟩
        · skip
          refine wp_iconst (pc := 56) (v := 0) dX11_wake_56 (by decide) ?_
          refine wp_goto (pc := 57) (tgt := 61) dX11_wake_57 (by decide) ?_
          exact wp_iret (pc := 61) dX11_wake_61 rfl ⟨_, rfl, by rw [hf]; simp only [eq_true c53, if_true, if_false, Bool.true_eq_false, Bool.false_eq_true, reduceIte, reduceCtorEq, Bool.not_true, Bool.not_false, true_and, and_true, and_false, false_and, or_true, true_or, or_false, false_or, not_true_eq_false, not_false_eq_true], A, by rw [hf]; show RH G hp A (sS (sI M 5 j is) 27 (if M.1 27 = nI j ∧ is = 0 then -1 else M.1 27)) h; rw [if_neg (fun z => c38 z.1.symm)]; exact (sS_self (sI M 5 j is) 27).symm ▸ hR, ext.refl A M⟩
      · skip
        refine wp_iload_n (pc := 41) dX11_wake_41 rfl rfl ?_
        refine wp_if_ne (pc := 42) (tgt := 50) dX11_wake_42 (by decide) (fun c42 => ?_) (fun c42 => ?_)
        · skip
          refine wp_iload (pc := 50) dX11_wake_50 rfl ?_
          refine wp_iload_n (pc := 52) dX11_wake_52 rfl rfl ?_
          refine wp_icmp_ne (pc := 53) (tgt := 60) dX11_wake_53 (by decide) (fun c53 => ?_) (fun c53 => ?_)
          · skip
            refine wp_iconst (pc := 60) (v := 1) dX11_wake_60 (by decide) ?_
            exact wp_iret (pc := 61) dX11_wake_61 rfl ⟨_, rfl, by rw [hf]; simp only [eq_false c53, if_true, if_false, Bool.true_eq_false, Bool.false_eq_true, reduceIte, reduceCtorEq, Bool.not_true, Bool.not_false, true_and, and_true, and_false, false_and, or_true, true_or, or_false, false_or, not_true_eq_false, not_false_eq_true], A, by rw [hf]; show RH G hp A (sS (sI M 5 j is) 27 (if M.1 27 = nI j ∧ is = 0 then -1 else M.1 27)) h; rw [if_neg (fun z => c42 z.2)]; exact (sS_self (sI M 5 j is) 27).symm ▸ hR, ext.refl A M⟩
          · skip
            refine wp_iconst (pc := 56) (v := 0) dX11_wake_56 (by decide) ?_
            refine wp_goto (pc := 57) (tgt := 61) dX11_wake_57 (by decide) ?_
            exact wp_iret (pc := 61) dX11_wake_61 rfl ⟨_, rfl, by rw [hf]; simp only [eq_true c53, if_true, if_false, Bool.true_eq_false, Bool.false_eq_true, reduceIte, reduceCtorEq, Bool.not_true, Bool.not_false, true_and, and_true, and_false, false_and, or_true, true_or, or_false, false_or, not_true_eq_false, not_false_eq_true], A, by rw [hf]; show RH G hp A (sS (sI M 5 j is) 27 (if M.1 27 = nI j ∧ is = 0 then -1 else M.1 27)) h; rw [if_neg (fun z => c42 z.2)]; exact (sS_self (sI M 5 j is) 27).symm ▸ hR, ext.refl A M⟩
        · skip
          refine wp_aload_n (pc := 45) dX11_wake_45 rfl rfl ?_
          refine wp_iconst (pc := 46) (v := (-1)) dX11_wake_46 (by decide) ?_
          refine wp_putC (pc := 47) dX11_wake_47 fl_X11_46_12 hR.bd (Or.inl rfl) (Nat.le_of_ble_eq_true rfl) rfl rfl rfl (fun h hq1 hq2 => ?_)
          have hR := hR.k0 (M' := sS (sI (M) 5 (j) (is)) 27 (-1)) rfl rfl rfl rfl rfl rfl hq1 hq2
          refine wp_iload (pc := 50) dX11_wake_50 rfl ?_
          refine wp_iload_n (pc := 52) dX11_wake_52 rfl rfl ?_
          refine wp_icmp_ne (pc := 53) (tgt := 60) dX11_wake_53 (by decide) (fun c53 => ?_) (fun c53 => ?_)
          · skip
            refine wp_iconst (pc := 60) (v := 1) dX11_wake_60 (by decide) ?_
            exact wp_iret (pc := 61) dX11_wake_61 rfl ⟨_, rfl, by rw [hf]; simp only [eq_false c53, if_true, if_false, Bool.true_eq_false, Bool.false_eq_true, reduceIte, reduceCtorEq, Bool.not_true, Bool.not_false, true_and, and_true, and_false, false_and, or_true, true_or, or_false, false_or, not_true_eq_false, not_false_eq_true], A, by rw [hf]; show RH G hp A (sS (sI M 5 j is) 27 (if M.1 27 = nI j ∧ is = 0 then -1 else M.1 27)) h; rw [if_pos ⟨c38.symm, c42⟩]; exact hR, ext.refl A M⟩
          · skip
            refine wp_iconst (pc := 56) (v := 0) dX11_wake_56 (by decide) ?_
            refine wp_goto (pc := 57) (tgt := 61) dX11_wake_57 (by decide) ?_
            exact wp_iret (pc := 61) dX11_wake_61 rfl ⟨_, rfl, by rw [hf]; simp only [eq_true c53, if_true, if_false, Bool.true_eq_false, Bool.false_eq_true, reduceIte, reduceCtorEq, Bool.not_true, Bool.not_false, true_and, and_true, and_false, false_and, or_true, true_or, or_false, false_or, not_true_eq_false, not_false_eq_true], A, by rw [hf]; show RH G hp A (sS (sI M 5 j is) 27 (if M.1 27 = nI j ∧ is = 0 then -1 else M.1 27)) h; rw [if_pos ⟨c38.symm, c42⟩]; exact hR, ext.refl A M⟩
    · rw [c10]
      have hf : f_wake M what (nI j) is = (if M.2.1 10 j = is then 0 else 1, sI M 10 j is) := by unfold f_wake; rw [if_neg (fun z => h0 z.1), if_pos ⟨h1, isIx_nI hj (by omega)⟩, nx_nI (show j < 2 ^ 31 by omega)]
      refine wp_aload (pc := 16) dX11_wake_16 rfl ?_
      refine wp_get (pc := 18) dX11_wake_18 fl_X11_123_11 (hR.wk hj) rfl ?_
      refine wp_istore (pc := 21) (lv' := [_, _, _, _, _, _]) dX11_wake_21 (Nat.le_of_ble_eq_true rfl) rfl rfl ?_
      refine wp_aload (pc := 23) dX11_wake_23 rfl ?_
      refine wp_iload_n (pc := 25) dX11_wake_25 rfl rfl ?_
      refine wp_putC (pc := 26) dX11_wake_26 fl_X11_123_11 (hR.wk hj) (Or.inl rfl) (Nat.le_of_ble_eq_true rfl) (nb his) (nf his) rfl (fun h hq1 hq2 => ?_)
      have hR := hR.k4 (M' := sI (M) 10 (j) (is)) ((chg.refl _ _ _ _).sI (by decide) _) (vl_4.mpr hj) (by rw [hq1]; simp [cc, cWk, sI, sL, sS, fu]) hq2
      refine wp_iload_n (pc := 29) dX11_wake_29 rfl rfl ?_
      refine wp_if_ne (pc := 30) (tgt := 50) dX11_wake_30 (by decide) (fun _ => ?_) (fun z => absurd z h0)
      refine wp_iload (pc := 50) dX11_wake_50 rfl ?_
      refine wp_iload_n (pc := 52) dX11_wake_52 rfl rfl ?_
      refine wp_icmp_ne (pc := 53) (tgt := 60) dX11_wake_53 (by decide) (fun c53 => ?_) (fun c53 => ?_)
      · skip
        refine wp_iconst (pc := 60) (v := 1) dX11_wake_60 (by decide) ?_
        exact wp_iret (pc := 61) dX11_wake_61 rfl ⟨_, rfl, by rw [hf]; simp only [eq_false c53, if_true, if_false, Bool.true_eq_false, Bool.false_eq_true, reduceIte, reduceCtorEq, Bool.not_true, Bool.not_false, true_and, and_true, and_false, false_and, or_true, true_or, or_false, false_or, not_true_eq_false, not_false_eq_true], A, by rw [hf]; exact hR, ext.refl A M⟩
      · skip
        refine wp_iconst (pc := 56) (v := 0) dX11_wake_56 (by decide) ?_
        refine wp_goto (pc := 57) (tgt := 61) dX11_wake_57 (by decide) ?_
        exact wp_iret (pc := 61) dX11_wake_61 rfl ⟨_, rfl, by rw [hf]; simp only [eq_true c53, if_true, if_false, Bool.true_eq_false, Bool.false_eq_true, reduceIte, reduceCtorEq, Bool.not_true, Bool.not_false, true_and, and_true, and_false, false_and, or_true, true_or, or_false, false_or, not_true_eq_false, not_false_eq_true], A, by rw [hf]; exact hR, ext.refl A M⟩
  · skip
    refine wp_bipush (pc := 13) (v := (-2)) dX11_wake_13 (by decide) ?_
    exact wp_iret (pc := 15) dX11_wake_15 rfl ⟨_, rfl, by unfold f_wake; rw [if_neg (pAt_n c10).1, if_neg (pAt_n c10).2], A, by unfold f_wake; rw [if_neg (pAt_n c10).1, if_neg (pAt_n c10).2]; exact hR, ext.refl A M⟩
end K8
