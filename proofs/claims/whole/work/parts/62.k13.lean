/-! ===== the class: keeper, worker, thing ===== -/
theorem lt_eq {K n : Nat} (h : K ≤ n) (hn : n < 2 ^ 31) (hc : ¬ nI K < nI n) : K = n := by
  rcases Nat.lt_or_ge K n with z | z
  · exact absurd (nI_lt z hn) hc
  · omega
theorem cntS {x : Int32} (h : x = nI (nx x)) (hb : nx x < 1000) : nI (nx (x + 1)) = x + 1 ∧ nx (x + 1) = nx x + 1 ∧ x + 1 = nI (nx x + 1) := by
  have e : x + 1 = nI (nx x + 1) := by rw [← nI_1, ← h]
  have e2 : nx (x + 1) = nx x + 1 := by rw [e]; exact nx_nI (by omega)
  exact ⟨by rw [e2, e], e2, e⟩
/-- all that is fresh is protected -/
def hpF (hp h h' : Hp) : Hp := fun q => match h q with
  | none => h' q
  | some _ => hp q
section RA13
variable {G : WG} {hp h h' : Hp} {A : AD} {M : MS}
theorem hpF_n {q : Nat} (hn : h q = none) : hpF hp h h' q = h' q := by unfold hpF; rw [hn]
theorem hpF_s (hR : RH G hp A M h) {a : Nat} {x : EC} (hx : hp a = some x) : hpF hp h h' a = some x := by
  unfold hpF
  rw [hR.pr hx]
  exact hx
theorem hpF_ne (hR : RH G hp A M h) {a e : Nat} {x : EC} (hx : hp a = some x) (he : h e = none) : a ≠ e := fun z => by
  have := hR.pr hx
  rw [z, he] at this
  cases this
theorem RH.freshF (hR : RH G hp A M h) (hf : ∀ q, h q ≠ none → h' q = h q) : RH G (hpF hp h h') A M h' := by
  obtain ⟨h1, h2, h3, h4, h5, h6⟩ := hR
  have hs : ∀ q x, h q = some x → h' q = some x := fun q x hx => by rw [hf q (by rw [hx]; exact fun z => by cases z)]; exact hx
  refine ⟨fun k i hv => hs _ _ (h1 k i hv), h2, fun a e ha => ?_, ?_, h5, h6⟩
  · unfold hpF at ha
    cases hc : h a with
    | none =>
      rw [hc] at ha
      exact ⟨ha, fun k i hv z => by have := h1 k i hv; rw [z, hc] at this; cases this⟩
    | some y =>
      rw [hc] at ha
      exact ⟨hs _ _ (h3 a e ha).1, (h3 a e ha).2⟩
  · unfold hpF
    rw [(h3 _ _ h4).1]
    exact h4
end RA13
section K13
variable (l : Launch) (G : WG) {hp h : Hp} {A : AD} {M : MS}
theorem k_keeper (b r : Int32) (hR : RH G hp A M h) (hb : bnd M) (hK : M.1 2 = nI (nx (M.1 2))) (hT : tidy M) : KS l G hp A mX11_keeper [.int b, .int r] M h (.int (f_keeper M b r).1) ((f_keeper M b r).2) := by
  refine Sp.intro (lv := [_, _, _]) (by decide) rfl (Nat.le_of_ble_eq_true rfl) ?_
  refine wp_widen (rc' := 2) (rs' := 603) (Nat.le_refl _) (Nat.le_refl _) ?_
  have hb9 := hb
  unfold bnd at hb9
  refine wp_aload_n (pc := 0) dX11_keeper_0 rfl rfl ?_
  refine wp_iload_n (pc := 1) dX11_keeper_1 rfl rfl ?_
  refine wp_iload_n (pc := 2) dX11_keeper_2 rfl rfl ?_
  refine wc_VP (pc := 3) (μ2 := mX11_isClock) (rc := 2) (rs := 603) [_, _] dX11_keeper_3 rfl hR.bd rfl cv_X11_83_12 rfl ⟨(Nat.le_of_ble_eq_true rfl), (Nat.le_of_ble_eq_true rfl)⟩ (Nat.le_of_ble_eq_true rfl) (c_isClock l G _ _ hR) ?_
  refine wp_ifB_ne (pc := 6) (tgt := 12) dX11_keeper_6 (by decide) (fun c6 => ?_) (fun c6 => ?_)
  · skip
    refine wp_aload_n (pc := 12) dX11_keeper_12 rfl rfl ?_
    refine wp_get (pc := 13) dX11_keeper_13 fl_X11_10_12 hR.bd rfl ?_
    refine wc_VP (pc := 16) (μ2 := mJx4a65c_size_8abf5) (rc := 2) (rs := 603) [] dX11_keeper_16 rfl (hR.lst (ll := 0) (by omega)) rfl cv_X11_87_0 rfl ⟨(Nat.le_of_ble_eq_true rfl), (Nat.le_of_ble_eq_true rfl)⟩ (Nat.le_of_ble_eq_true rfl) (show SpP l G mJx4a65c_size_8abf5 [_] _ (.int (nI (nx (M.1 2)))) from j_size l G _ (hR.lst (ll := 0) (by omega))) ?_
    refine wp_iconst (pc := 19) (v := 5) dX11_keeper_19 (by decide) ?_
    refine wp_icmp_lt (pc := 20) (tgt := 26) dX11_keeper_20 (by decide) (fun c20 => ?_) (fun c20 => ?_)
    · have hK5 : nx (M.1 2) < 5 := (nI_ltI (by omega) (by decide)).mp c20
      have hc3 := cntS hK (show nx (M.1 2) < 1000 by omega)
      have c21 : ¬ M.1 2 = 5 := fun z => by rw [z] at hK5; exact absurd hK5 (by decide)
      have hf : f_keeper M b r = (M.1 2 + 1 - 1, sS (sI (sI (sI M 3 (nx (M.1 2)) b) 4 (nx (M.1 2)) r) 5 (nx (M.1 2)) 1) 2 (M.1 2 + 1)) := by simp only [f_keeper, c6, eq_false c21, if_true, if_false, Bool.true_eq_false, Bool.false_eq_true, reduceIte, reduceCtorEq, Bool.not_true, Bool.not_false, true_and, and_true, and_false, false_and, or_true, true_or, or_false, false_or, not_true_eq_false, not_false_eq_true]
      refine wp_aload_n (pc := 26) dX11_keeper_26 rfl rfl ?_
      refine wp_get (pc := 27) dX11_keeper_27 fl_X11_10_12 hR.bd rfl ?_
      refine wp_newC (pc := 30) (rc := 1) (rs := 600) (ci := 6) (fs := [.int 0, .int 0, .int 0]) dX11_keeper_30 nw_X11_91 rfl nd_6 (fun e h en ec ef => ?_)
      refine wp_dup (pc := 33) dX11_keeper_33 rfl ?_
      refine wp_iload_n (pc := 34) dX11_keeper_34 rfl rfl ?_
      refine wp_iload_n (pc := 35) dX11_keeper_35 rfl rfl ?_
      refine wc_IN (pc := 36) (μ2 := mX5_init) (rc := 1) (rs := 600) [_, _] dX11_keeper_36 rfl cc_X11_93 rfl ⟨(Nat.le_of_ble_eq_true rfl), (Nat.le_of_ble_eq_true rfl)⟩ (Nat.le_of_ble_eq_true rfl) (c_i5_6 l G _ ec) (fun h q => ?_)
      obtain ⟨ec2, ef2⟩ := q
      have hR0 := hR
      have hR := hR.freshF (h' := h) (fun q hq => (ef2 q (fun z => hq (z ▸ en))).trans (ef q (fun z => hq (z ▸ en))))
      refine wc_VV (pc := 39) (μ2 := mJx4a65c_add_9ea2d) (rc := 0) (rs := 0) [_] dX11_keeper_39 rfl (hR.lst (ll := 0) (by omega)) rfl cv_X11_96_0 rfl ⟨(Nat.le_of_ble_eq_true rfl), (Nat.le_of_ble_eq_true rfl)⟩ (Nat.le_of_ble_eq_true rfl) (j_add l G _ (hR.lst (ll := 0) (by omega)) (hR.dat (by omega)) (fun z => if_pos z) (hR.cap (by omega)).1 (show len M 0 < 400 from by show nx (M.1 2) < 400; omega) (hR.cap (by omega)).2 ec2 cO_6 (fun i hi => hR.vElt hT (by omega) hi)) (fun r h q => ?_)
      obtain ⟨rfl, b9, n9, h9⟩ := q
      obtain ⟨A9, hR, hE, -, -⟩ := RH.addK (hp := hp) (M' := sS (sI (sI (sI M 3 (nx (M.1 2)) b) 4 (nx (M.1 2)) r) 5 (nx (M.1 2)) 1) 2 (M.1 2 + 1)) hR hT hK hK5 (fun f hf => by rw [sS_at, if_neg hf]; rfl) hc3.2.2 (fun f i hf => by have hn : ∀ g, g ∈ ([3, 4, 5] : List Nat) → ¬ (f = g ∧ i = nx (M.1 2)) := fun g hg z => hf.elim (fun q => q (z.1 ▸ hg)) (fun q => q z.2); simp only [sS_1, sL_1, sI_at, hn 3 (by decide), hn 4 (by decide), hn 5 (by decide), if_false]) (fun _ _ _ => rfl) (by rw [hpF_n en, ec2]; simp [cKp, sS, sI, fu]) h9 (fun a x hx => ⟨hpF_s hR0 hx, hpF_ne hR0 hx en⟩) hR0.2.2.2.1
      refine wp_pop (pc := 42) dX11_keeper_42 rfl ?_
      have e0 : A9.1 0 0 = A.1 0 0 := hE 0 0 (by decide) (by decide) (vl_0.mpr rfl)
      rw [← e0]
      refine wp_aload_n (pc := 43) dX11_keeper_43 rfl rfl ?_
      refine wp_get (pc := 44) dX11_keeper_44 fl_X11_10_12 hR.bd rfl ?_
      refine wc_VP (pc := 47) (μ2 := mJx4a65c_size_8abf5) (rc := 0) (rs := 0) [] dX11_keeper_47 rfl (hR.lst (ll := 0) (by omega)) rfl cv_X11_87_0 rfl ⟨(Nat.le_of_ble_eq_true rfl), (Nat.le_of_ble_eq_true rfl)⟩ (Nat.le_of_ble_eq_true rfl) (show SpP l G mJx4a65c_size_8abf5 [_] _ (.int (nI (nx ((sS (sI (sI (sI M 3 (nx (M.1 2)) b) 4 (nx (M.1 2)) r) 5 (nx (M.1 2)) 1) 2 (M.1 2 + 1)).1 2)))) from j_size l G _ (hR.lst (ll := 0) (by omega))) ?_
      refine wp_iconst (pc := 50) (v := 1) dX11_keeper_50 (by decide) ?_
      refine wp_isub (pc := 51) dX11_keeper_51 ?_
      exact wp_iret (pc := 52) dX11_keeper_52 rfl ⟨_, rfl, by rw [hf]; exact congrArg (fun z => Value.int (z - 1)) hc3.1, A9, by rw [hf]; exact hR, hE⟩
    · have c21 : M.1 2 = 5 := by rw [hK, lt_eq (n := 5) (by omega) (by decide) c20]; rfl
      refine wp_bipush (pc := 23) (v := (-4)) dX11_keeper_23 (by decide) ?_
      exact wp_iret (pc := 25) dX11_keeper_25 rfl ⟨_, rfl, by simp only [f_keeper, c6, eq_true c21, if_true, if_false, Bool.true_eq_false, Bool.false_eq_true, reduceIte, reduceCtorEq, Bool.not_true, Bool.not_false, true_and, and_true, and_false, false_and, or_true, true_or, or_false, false_or, not_true_eq_false, not_false_eq_true], A, by simp only [f_keeper, c6, eq_true c21, if_true, if_false, Bool.true_eq_false, Bool.false_eq_true, reduceIte, reduceCtorEq, Bool.not_true, Bool.not_false, true_and, and_true, and_false, false_and, or_true, true_or, or_false, false_or, not_true_eq_false, not_false_eq_true] <;> exact hR, ext.refl A M⟩
  · skip
    refine wp_bipush (pc := 9) (v := (-2)) dX11_keeper_9 (by decide) ?_
    exact wp_iret (pc := 11) dX11_keeper_11 rfl ⟨_, rfl, by simp only [f_keeper, c6, if_true, if_false, Bool.true_eq_false, Bool.false_eq_true, reduceIte, reduceCtorEq, Bool.not_true, Bool.not_false, true_and, and_true, and_false, false_and, or_true, true_or, or_false, false_or, not_true_eq_false, not_false_eq_true], A, by simp only [f_keeper, c6, if_true, if_false, Bool.true_eq_false, Bool.false_eq_true, reduceIte, reduceCtorEq, Bool.not_true, Bool.not_false, true_and, and_true, and_false, false_and, or_true, true_or, or_false, false_or, not_true_eq_false, not_false_eq_true] <;> exact hR, ext.refl A M⟩
theorem k_worker (b r : Int32) (hR : RH G hp A M h) (hb : bnd M) (hW : M.1 6 = nI (nx (M.1 6))) (hT : tidy M) (hw9 : nx (M.1 6) < 20 → M.2.1 9 (nx (M.1 6)) = 0) (hz : nx (M.1 6) < 20 → ∀ t, t < 20 → M.2.1 32 (20 * nx (M.1 6) + t) = 0 ∧ M.2.1 29 (20 * nx (M.1 6) + t) = 0 ∧ M.2.1 30 (20 * nx (M.1 6) + t) = 0 ∧ M.2.1 31 (20 * nx (M.1 6) + t) = 0 ∧ M.2.2 33 (20 * nx (M.1 6) + t) = 0 ∧ M.2.2 34 (20 * nx (M.1 6) + t) = 0) : KS l G hp A mX11_worker [.int b, .int r] M h (.int (f_worker M b r).1) ((f_worker M b r).2) := by
  refine Sp.intro (lv := [_, _, _]) (by decide) rfl (Nat.le_of_ble_eq_true rfl) ?_
  refine wp_widen (rc' := 23) (rs' := 745) (Nat.le_refl _) (Nat.le_refl _) ?_
  have hb9 := hb
  unfold bnd at hb9
  refine wp_aload_n (pc := 0) dX11_worker_0 rfl rfl ?_
  refine wp_iload_n (pc := 1) dX11_worker_1 rfl rfl ?_
  refine wp_iload_n (pc := 2) dX11_worker_2 rfl rfl ?_
  refine wc_VP (pc := 3) (μ2 := mX11_isClock) (rc := 23) (rs := 745) [_, _] dX11_worker_3 rfl hR.bd rfl cv_X11_83_12 rfl ⟨(Nat.le_of_ble_eq_true rfl), (Nat.le_of_ble_eq_true rfl)⟩ (Nat.le_of_ble_eq_true rfl) (c_isClock l G _ _ hR) ?_
  refine wp_ifB_ne (pc := 6) (tgt := 12) dX11_worker_6 (by decide) (fun c6 => ?_) (fun c6 => ?_)
  · skip
    refine wp_aload_n (pc := 12) dX11_worker_12 rfl rfl ?_
    refine wp_get (pc := 13) dX11_worker_13 fl_X11_16_12 hR.bd rfl ?_
    refine wc_VP (pc := 16) (μ2 := mJx4a65c_size_8abf5) (rc := 23) (rs := 745) [] dX11_worker_16 rfl (hR.lst (ll := 1) (by omega)) rfl cv_X11_87_0 rfl ⟨(Nat.le_of_ble_eq_true rfl), (Nat.le_of_ble_eq_true rfl)⟩ (Nat.le_of_ble_eq_true rfl) (show SpP l G mJx4a65c_size_8abf5 [_] _ (.int (nI (nx (M.1 6)))) from j_size l G _ (hR.lst (ll := 1) (by omega))) ?_
    refine wp_bipush (pc := 19) (v := 20) dX11_worker_19 (by decide) ?_
    refine wp_icmp_lt (pc := 21) (tgt := 27) dX11_worker_21 (by decide) (fun c21 => ?_) (fun c21 => ?_)
    · have hK5 : nx (M.1 6) < 20 := (nI_ltI (by omega) (by decide)).mp c21
      have hc3 := cntS hW (show nx (M.1 6) < 1000 by omega)
      have c22 : ¬ M.1 6 = 20 := fun z => by rw [z] at hK5; exact absurd hK5 (by decide)
      have hw9 := hw9 hK5
      have hz := hz hK5
      have hf : f_worker M b r = (M.1 6 + 1 - 1, sS (sI (sI (sI M 7 (nx (M.1 6)) b) 8 (nx (M.1 6)) r) 10 (nx (M.1 6)) 1) 6 (M.1 6 + 1)) := by simp only [f_worker, c6, eq_false c22, if_true, if_false, Bool.true_eq_false, Bool.false_eq_true, reduceIte, reduceCtorEq, Bool.not_true, Bool.not_false, true_and, and_true, and_false, false_and, or_true, true_or, or_false, false_or, not_true_eq_false, not_false_eq_true]
      refine wp_aload_n (pc := 27) dX11_worker_27 rfl rfl ?_
      refine wp_get (pc := 28) dX11_worker_28 fl_X11_16_12 hR.bd rfl ?_
      refine wp_newC (pc := 31) (rc := 22) (rs := 740) (ci := 11) (fs := [.int 0, .int 0, .int 0, .null, .int 0]) dX11_worker_31 nw_X11_100 rfl nd_11 (fun e h en ec ef => ?_)
      refine wp_dup (pc := 34) dX11_worker_34 rfl ?_
      refine wp_iload_n (pc := 35) dX11_worker_35 rfl rfl ?_
      refine wp_iload_n (pc := 36) dX11_worker_36 rfl rfl ?_
      refine wc_IN (pc := 37) (μ2 := mX10_init) (rc := 1) (rs := 600) [_, _] dX11_worker_37 rfl cc_X11_102 rfl ⟨(Nat.le_of_ble_eq_true rfl), (Nat.le_of_ble_eq_true rfl)⟩ (Nat.le_of_ble_eq_true rfl) (c_i10 l G _ ec) (fun h q => ?_)
      obtain ⟨rr, mm, f1, f2n, f2, f3, f4, f5⟩ := q
      have rn := (ef rr (fun z => by rw [z, ec] at f2n; cases f2n)).symm.trans f2n
      have mn : ∀ t, t < 20 → _ = none := fun t ht => (ef (mm t) (fun z => by have := (f3 t ht).1; rw [z, ec] at this; cases this)).symm.trans (f3 t ht).1
      have hR0 := hR
      have hR := hR.freshF (h' := h) (fun q hq => (f5 q (fun z => hq (z ▸ en)) (fun z => hq (z ▸ rn)) (fun t ht z => hq (z ▸ mn t ht))).trans (ef q (fun z => hq (z ▸ en))))
      refine wc_VV (pc := 40) (μ2 := mJx4a65c_add_9ea2d) (rc := 0) (rs := 0) [_] dX11_worker_40 rfl (hR.lst (ll := 1) (by omega)) rfl cv_X11_96_0 rfl ⟨(Nat.le_of_ble_eq_true rfl), (Nat.le_of_ble_eq_true rfl)⟩ (Nat.le_of_ble_eq_true rfl) (j_add l G _ (hR.lst (ll := 1) (by omega)) (hR.dat (by omega)) (fun z => if_pos z) (hR.cap (by omega)).1 (show len M 1 < 400 from by show nx (M.1 6) < 400; omega) (hR.cap (by omega)).2 f1 cO_11 (fun i hi => hR.vElt hT (by omega) hi)) (fun r h q => ?_)
      obtain ⟨rfl, b9, n9, h9⟩ := q
      obtain ⟨A9, hR, hE, -⟩ := RH.addW (hp := hp) (M' := sS (sI (sI (sI M 7 (nx (M.1 6)) b) 8 (nx (M.1 6)) r) 10 (nx (M.1 6)) 1) 6 (M.1 6 + 1)) hR hT hW hK5 (fun f hf => by rw [sS_at, if_neg hf]; rfl) hc3.2.2 (fun f i hf => by have hn : ∀ g, g ∈ ([7, 8, 10] : List Nat) → ¬ (f = g ∧ i = nx (M.1 6)) := fun g hg z => hf.elim (fun q => q (z.1 ▸ hg)) (fun q => q z.2); simp only [sS_1, sL_1, sI_at, hn 7 (by decide), hn 8 (by decide), hn 10 (by decide), if_false]) rfl (by rw [hpF_n en, f1]; simp [sS, sI, fu, hw9]) (by rw [hpF_n rn]; exact f2) (fun t ht => by rw [hpF_n (mn t ht), (f3 t ht).2.1]; obtain ⟨y1, y2, y3, y4, y5, y6⟩ := hz t ht; simp [cMm, sS, sI, fu, y1, y2, y3, y4, y5, y6]) f4 h9 (fun a x hx => ⟨hpF_s hR0 hx, hpF_ne hR0 hx en, hpF_ne hR0 hx rn, fun t ht => hpF_ne hR0 hx (mn t ht)⟩) hR0.2.2.2.1
      refine wp_pop (pc := 43) dX11_worker_43 rfl ?_
      have e0 : A9.1 0 0 = A.1 0 0 := hE 0 0 (by decide) (by decide) (vl_0.mpr rfl)
      rw [← e0]
      refine wp_aload_n (pc := 44) dX11_worker_44 rfl rfl ?_
      refine wp_get (pc := 45) dX11_worker_45 fl_X11_16_12 hR.bd rfl ?_
      refine wc_VP (pc := 48) (μ2 := mJx4a65c_size_8abf5) (rc := 0) (rs := 0) [] dX11_worker_48 rfl (hR.lst (ll := 1) (by omega)) rfl cv_X11_87_0 rfl ⟨(Nat.le_of_ble_eq_true rfl), (Nat.le_of_ble_eq_true rfl)⟩ (Nat.le_of_ble_eq_true rfl) (show SpP l G mJx4a65c_size_8abf5 [_] _ (.int (nI (nx ((sS (sI (sI (sI M 7 (nx (M.1 6)) b) 8 (nx (M.1 6)) r) 10 (nx (M.1 6)) 1) 6 (M.1 6 + 1)).1 6)))) from j_size l G _ (hR.lst (ll := 1) (by omega))) ?_
      refine wp_iconst (pc := 51) (v := 1) dX11_worker_51 (by decide) ?_
      refine wp_isub (pc := 52) dX11_worker_52 ?_
      exact wp_iret (pc := 53) dX11_worker_53 rfl ⟨_, rfl, by rw [hf]; exact congrArg (fun z => Value.int (z - 1)) hc3.1, A9, by rw [hf]; exact hR, hE⟩
    · have c22 : M.1 6 = 20 := by rw [hW, lt_eq (n := 20) (by omega) (by decide) c21]; rfl
      refine wp_bipush (pc := 24) (v := (-4)) dX11_worker_24 (by decide) ?_
      exact wp_iret (pc := 26) dX11_worker_26 rfl ⟨_, rfl, by simp only [f_worker, c6, eq_true c22, if_true, if_false, Bool.true_eq_false, Bool.false_eq_true, reduceIte, reduceCtorEq, Bool.not_true, Bool.not_false, true_and, and_true, and_false, false_and, or_true, true_or, or_false, false_or, not_true_eq_false, not_false_eq_true], A, by simp only [f_worker, c6, eq_true c22, if_true, if_false, Bool.true_eq_false, Bool.false_eq_true, reduceIte, reduceCtorEq, Bool.not_true, Bool.not_false, true_and, and_true, and_false, false_and, or_true, true_or, or_false, false_or, not_true_eq_false, not_false_eq_true] <;> exact hR, ext.refl A M⟩
  · skip
    refine wp_bipush (pc := 9) (v := (-2)) dX11_worker_9 (by decide) ?_
    exact wp_iret (pc := 11) dX11_worker_11 rfl ⟨_, rfl, by simp only [f_worker, c6, if_true, if_false, Bool.true_eq_false, Bool.false_eq_true, reduceIte, reduceCtorEq, Bool.not_true, Bool.not_false, true_and, and_true, and_false, false_and, or_true, true_or, or_false, false_or, not_true_eq_false, not_false_eq_true], A, by simp only [f_worker, c6, if_true, if_false, Bool.true_eq_false, Bool.false_eq_true, reduceIte, reduceCtorEq, Bool.not_true, Bool.not_false, true_and, and_true, and_false, false_and, or_true, true_or, or_false, false_or, not_true_eq_false, not_false_eq_true] <;> exact hR, ext.refl A M⟩
end K13
