/-! ===== the class: thing ===== -/
def tXq (k w : Int32) (qa : Nat) : List Value := if k = 2 then [.int w] else if k = 3 then [.int (-1)] else if k = 4 then [.ref qa, .int 0, .int 0, .long 0] else []
def lgv (d n : Int32) : Int32 := (n * (1000 + d) + (1000 - d) - 1) / (1000 - d) + 2
def nTh (G : WG) (k ln d w : Int32) (h : Hp) (r : Value) (h' : Hp) : Prop := ∃ e gl qa : Nat, r = .ref e ∧ h e = none ∧ h gl = none ∧ h' e = some (oB (tci k) ([.int k, .int ln, .int (lgv d ln), .ref gl, .long 0] ++ tXq k w qa)) ∧ h' gl = some (oB 0 [.int 0, .ref (gE G), .int (nI 0)]) ∧ (k = 4 → h qa = none ∧ h' qa = some (aI 8 (fun _ => 0))) ∧ ∀ q, h q ≠ none → h' q = h q
section K14
variable (l : Launch) (G : WG) {hp h : Hp} {A : AD} {M : MS}
theorem c_divideUp (n d : Int32) (h : Hp) (hd0 : 0 < d) : SpP l G mX11_divideUp [.int n, .int d] h (.int ((n + d - 1) / d)) := by
  refine Sp.intro (lv := [_, _]) (by decide) rfl (Nat.le_of_ble_eq_true rfl) ?_
  refine wp_widen (rc' := 0) (rs' := 0) (Nat.le_refl _) (Nat.le_refl _) ?_
  refine wp_iload_n (pc := 0) dX11_divideUp_0 rfl rfl ?_
  refine wp_if_gt (pc := 1) (tgt := 8) dX11_divideUp_1 (by decide) (fun _ => ?_) (fun z => absurd hd0 z)
  refine wp_iload_n (pc := 8) dX11_divideUp_8 rfl rfl ?_
  refine wp_iload_n (pc := 9) dX11_divideUp_9 rfl rfl ?_
  refine wp_iadd (pc := 10) dX11_divideUp_10 ?_
  refine wp_iconst (pc := 11) (v := 1) dX11_divideUp_11 (by decide) ?_
  refine wp_isub (pc := 12) dX11_divideUp_12 ?_
  refine wp_iload_n (pc := 13) dX11_divideUp_13 rfl rfl ?_
  refine wp_idiv (pc := 14) dX11_divideUp_14 (fun z => absurd hd0 (by rw [z]; decide)) ?_
  exact wp_iret (pc := 15) dX11_divideUp_15 rfl ⟨rfl, rfl⟩
theorem c_newThing (hR : RH G hp A M h) {k ln w : Int32} (hk : k = 0 ∨ k = 1 ∨ k = 2 ∨ k = 3 ∨ k = 4) (hd0 : 0 < 1000 - M.1 0) : SpV l G mX11_newThing [.ref (A.1 0 0), .int k, .int ln, .int w] h (nTh G k ln (M.1 0) w h) := by
  refine Sp.intro (lv := [_, _, _, _, _]) (by decide) rfl (Nat.le_of_ble_eq_true rfl) ?_
  refine wp_widen (rc' := 3) (rs' := 20) (Nat.le_refl _) (Nat.le_refl _) ?_
  refine wp_iload_n (pc := 0) dX11_newThing_0 rfl rfl ?_
  refine wp_sipush (pc := 1) (v := 1000) dX11_newThing_1 (by decide) ?_
  refine wp_aload_n (pc := 4) dX11_newThing_4 rfl rfl ?_
  refine wp_get (pc := 5) dX11_newThing_5 fl_X11_79_12 hR.bd rfl ?_
  refine wp_iadd (pc := 8) dX11_newThing_8 ?_
  refine wp_imul (pc := 9) dX11_newThing_9 ?_
  refine wp_sipush (pc := 10) (v := 1000) dX11_newThing_10 (by decide) ?_
  refine wp_aload_n (pc := 13) dX11_newThing_13 rfl rfl ?_
  refine wp_get (pc := 14) dX11_newThing_14 fl_X11_79_12 hR.bd rfl ?_
  refine wp_isub (pc := 17) dX11_newThing_17 ?_
  refine wc_SP (pc := 18) (μ2 := mX11_divideUp) (rc := 3) (rs := 20) [_, _] dX11_newThing_18 rfl cs_X11_387 rfl ⟨(Nat.le_of_ble_eq_true rfl), (Nat.le_of_ble_eq_true rfl)⟩ (Nat.le_of_ble_eq_true rfl) (c_divideUp l G _ _ _ hd0) ?_
  refine wp_iconst (pc := 21) (v := 2) dX11_newThing_21 (by decide) ?_
  refine wp_iadd (pc := 22) dX11_newThing_22 ?_
  refine wp_istore (pc := 23) (lv' := [_, _, _, _, _]) dX11_newThing_23 (Nat.le_of_ble_eq_true rfl) rfl rfl ?_
  refine wp_iload_n (pc := 25) dX11_newThing_25 rfl rfl ?_
  refine wp_tsw_1_4 (pc := 26) dX11_newThing_26 (t0 := 56) (t1 := 68) (t2 := 80) (t3 := 91) (td := 102) (by decide) (by decide) (by decide) (by decide) (by decide) (fun c26 => ?_) (fun c26 => ?_) (fun c26 => ?_) (fun c26 => ?_) (fun c26 => ?_)
  · subst c26
    refine wp_newC (pc := 56) (rc := 2) (rs := 15) (ci := 8) (fs := [.int 0, .int 0, .int 0, .null, .long 0]) dX11_newThing_56 nw_X11_390 rfl nd_8 (fun e h en ec ef => ?_)
    refine wp_dup (pc := 59) dX11_newThing_59 rfl ?_
    refine wp_iconst (pc := 60) (v := 1) dX11_newThing_60 (by decide) ?_
    refine wp_iload_n (pc := 61) dX11_newThing_61 rfl rfl ?_
    refine wp_iload (pc := 62) dX11_newThing_62 rfl ?_
    refine wc_IN (pc := 64) (μ2 := mX7_init) (rc := 1) (rs := 12) [_, _, _] dX11_newThing_64 rfl cc_X11_392 rfl ⟨(Nat.le_of_ble_eq_true rfl), (Nat.le_of_ble_eq_true rfl)⟩ (Nat.le_of_ble_eq_true rfl) (c_i7_8 l G _ ec) (fun h q => ?_)
    obtain ⟨gl, g1, g2, g3, g4⟩ := q
    have gl0 := (ef gl (fun z => by rw [z, ec] at g1; cases g1)).symm.trans g1
    exact wp_aret (r := some e) (pc := 67) dX11_newThing_67 rfl (Or.inl ⟨_, rfl⟩) ⟨_, rfl, e, gl, 0, rfl, en, gl0, g3, g2, fun z => absurd z (by decide), fun q hq => (g4 q (fun z => hq (z ▸ en)) (fun z => hq (z ▸ gl0))).trans (ef q (fun z => hq (z ▸ en)))⟩
  · subst c26
    refine wp_newC (pc := 68) (rc := 2) (rs := 14) (ci := 1) (fs := [.int 0, .int 0, .int 0, .null, .long 0, .int 0]) dX11_newThing_68 nw_X11_277 rfl nd_1 (fun e h en ec ef => ?_)
    refine wp_dup (pc := 71) dX11_newThing_71 rfl ?_
    refine wp_iload_n (pc := 72) dX11_newThing_72 rfl rfl ?_
    refine wp_iload (pc := 73) dX11_newThing_73 rfl ?_
    refine wp_iload_n (pc := 75) dX11_newThing_75 rfl rfl ?_
    refine wc_IN (pc := 76) (μ2 := mX0_init) (rc := 1) (rs := 11) [_, _, _] dX11_newThing_76 rfl cc_X11_395 rfl ⟨(Nat.le_of_ble_eq_true rfl), (Nat.le_of_ble_eq_true rfl)⟩ (Nat.le_of_ble_eq_true rfl) (c_i0 l G _ ec) (fun h q => ?_)
    obtain ⟨gl, g1, g2, g3, g4⟩ := q
    have gl0 := (ef gl (fun z => by rw [z, ec] at g1; cases g1)).symm.trans g1
    exact wp_aret (r := some e) (pc := 79) dX11_newThing_79 rfl (Or.inl ⟨_, rfl⟩) ⟨_, rfl, e, gl, 0, rfl, en, gl0, g3, g2, fun z => absurd z (by decide), fun q hq => (g4 q (fun z => hq (z ▸ en)) (fun z => hq (z ▸ gl0))).trans (ef q (fun z => hq (z ▸ en)))⟩
  · subst c26
    refine wp_newC (pc := 80) (rc := 2) (rs := 14) (ci := 7) (fs := [.int 0, .int 0, .int 0, .null, .long 0, .int 0]) dX11_newThing_80 nw_X11_203 rfl nd_7 (fun e h en ec ef => ?_)
    refine wp_dup (pc := 83) dX11_newThing_83 rfl ?_
    refine wp_iload_n (pc := 84) dX11_newThing_84 rfl rfl ?_
    refine wp_iload (pc := 85) dX11_newThing_85 rfl ?_
    refine wc_IN (pc := 87) (μ2 := mX6_init) (rc := 1) (rs := 11) [_, _] dX11_newThing_87 rfl cc_X11_396 rfl ⟨(Nat.le_of_ble_eq_true rfl), (Nat.le_of_ble_eq_true rfl)⟩ (Nat.le_of_ble_eq_true rfl) (c_i6 l G _ ec) (fun h q => ?_)
    obtain ⟨gl, g1, g2, g3, g4⟩ := q
    have gl0 := (ef gl (fun z => by rw [z, ec] at g1; cases g1)).symm.trans g1
    exact wp_aret (r := some e) (pc := 90) dX11_newThing_90 rfl (Or.inl ⟨_, rfl⟩) ⟨_, rfl, e, gl, 0, rfl, en, gl0, g3, g2, fun z => absurd z (by decide), fun q hq => (g4 q (fun z => hq (z ▸ en)) (fun z => hq (z ▸ gl0))).trans (ef q (fun z => hq (z ▸ en)))⟩
  · subst c26
    refine wp_newC (pc := 91) (rc := 2) (rs := 11) (ci := 10) (fs := [.int 0, .int 0, .int 0, .null, .long 0, .null, .int 0, .int 0, .long 0]) dX11_newThing_91 nw_X11_285 rfl nd_10 (fun e h en ec ef => ?_)
    refine wp_dup (pc := 94) dX11_newThing_94 rfl ?_
    refine wp_iload_n (pc := 95) dX11_newThing_95 rfl rfl ?_
    refine wp_iload (pc := 96) dX11_newThing_96 rfl ?_
    refine wc_IN (pc := 98) (μ2 := mX9_init) (rc := 0) (rs := 0) [_, _] dX11_newThing_98 rfl cc_X11_397 rfl ⟨(Nat.le_of_ble_eq_true rfl), (Nat.le_of_ble_eq_true rfl)⟩ (Nat.le_of_ble_eq_true rfl) (c_i9 l G _ ec) (fun h q => ?_)
    obtain ⟨gl, qa, g1, g1q, gq, g2, g5, g3, g4⟩ := q
    have gl0 := (ef gl (fun z => by rw [z, ec] at g1; cases g1)).symm.trans g1
    have qa0 := (ef qa (fun z => by rw [z, ec] at g1q; cases g1q)).symm.trans g1q
    exact wp_aret (r := some e) (pc := 101) dX11_newThing_101 rfl (Or.inl ⟨_, rfl⟩) ⟨_, rfl, e, gl, qa, rfl, en, gl0, g3, g2, fun _ => ⟨qa0, g5⟩, fun q hq => (g4 q (fun z => hq (z ▸ en)) (fun z => hq (z ▸ gl0)) (fun z => hq (z ▸ qa0))).trans (ef q (fun z => hq (z ▸ en)))⟩
  · have k0 : k = 0 := hk.resolve_right (fun z => by rcases z with rfl | rfl | rfl | rfl <;> revert c26 <;> decide)
    subst k0
    refine wp_newC (pc := 102) (rc := 2) (rs := 15) (ci := 5) (fs := [.int 0, .int 0, .int 0, .null, .long 0]) dX11_newThing_102 nw_X11_161 rfl nd_5 (fun e h en ec ef => ?_)
    refine wp_dup (pc := 105) dX11_newThing_105 rfl ?_
    refine wp_iconst (pc := 106) (v := 0) dX11_newThing_106 (by decide) ?_
    refine wp_iload_n (pc := 107) dX11_newThing_107 rfl rfl ?_
    refine wp_iload (pc := 108) dX11_newThing_108 rfl ?_
    refine wc_IN (pc := 110) (μ2 := mX4_init) (rc := 1) (rs := 12) [_, _, _] dX11_newThing_110 rfl cc_X11_398 rfl ⟨(Nat.le_of_ble_eq_true rfl), (Nat.le_of_ble_eq_true rfl)⟩ (Nat.le_of_ble_eq_true rfl) (c_i4_5 l G _ ec) (fun h q => ?_)
    obtain ⟨gl, g1, g2, g3, g4⟩ := q
    have gl0 := (ef gl (fun z => by rw [z, ec] at g1; cases g1)).symm.trans g1
    exact wp_aret (r := some e) (pc := 113) dX11_newThing_113 rfl (Or.inl ⟨_, rfl⟩) ⟨_, rfl, e, gl, 0, rfl, en, gl0, g3, g2, fun z => absurd z (by decide), fun q hq => (g4 q (fun z => hq (z ▸ en)) (fun z => hq (z ▸ gl0))).trans (ef q (fun z => hq (z ▸ en)))⟩
theorem fin04 {k : Int32} (h : fin k 0 4 = true) : k = 0 ∨ k = 1 ∨ k = 2 ∨ k = 3 ∨ k = 4 := by
  obtain ⟨h1, h2⟩ := fin_t h
  obtain ⟨j, hj, rfl⟩ := nI_of2 (M := 4) (n := 4) rfl (Int32.not_lt.mpr h1) h2
  have hj : j = 0 ∨ j = 1 ∨ j = 2 ∨ j = 3 ∨ j = 4 := by omega
  rcases hj with rfl | rfl | rfl | rfl | rfl <;> decide
theorem fin00 (w : Int32) : fin w 0 0 = decide (w = 0) := by
  unfold fin
  by_cases h : w = 0
  · subst h; decide
  · rw [decide_eq_false h]
    by_cases h1 : w < 0
    · rw [if_pos h1]
    · rw [if_neg h1, if_pos]
      exact Decidable.byContradiction (fun z => h (Int32.le_antisymm (Int32.not_lt.mp z) (Int32.not_lt.mp h1)))
theorem row8 (M : MS) (i : Nat) (hz : ∀ q, q < 8 → M.2.1 17 (8 * i + q) = 0) : (fun q => if q < 8 then M.2.1 17 (8 * i + q) else 0) = fun _ => (0 : Int32) := by
  funext q
  by_cases hq : q < 8
  · rw [if_pos hq, hz q hq]
  · rw [if_neg hq]
theorem k_thing (k ln w : Int32) (hR : RH G hp A M h) (hb : bnd M) (hN : M.1 11 = nI (nx (M.1 11))) (hT : tidy M) (hd0 : 0 < 1000 - M.1 0) (hz : nx (M.1 11) < 20 → M.2.1 21 (nx (M.1 11)) = 0 ∧ M.2.1 20 (nx (M.1 11)) = 0 ∧ M.2.2 18 (nx (M.1 11)) = 0 ∧ M.2.1 16 (nx (M.1 11)) = 0 ∧ ∀ q, q < 8 → M.2.1 17 (8 * nx (M.1 11) + q) = 0) : KS l G hp A mX11_thing [.int k, .int ln, .int w] M h (.int (f_thing M k ln w).1) ((f_thing M k ln w).2) := by
  refine Sp.intro (lv := [_, _, _, _, _, _]) (by decide) rfl (Nat.le_of_ble_eq_true rfl) ?_
  refine wp_widen (rc' := 4) (rs' := 620) (Nat.le_refl _) (Nat.le_refl _) ?_
  have hb9 := hb
  unfold bnd at hb9
  by_cases hk2 : k = 2
  · refine wp_iload_n (pc := 0) dX11_thing_0 rfl rfl ?_
    refine wp_iconst (pc := 1) (v := 2) dX11_thing_1 (by decide) ?_
    refine wp_icmp_ne (pc := 2) (tgt := 9) dX11_thing_2 (by decide) (fun z => absurd hk2 z) (fun _ => ?_)
    refine wp_iconst (pc := 5) (v := 1) dX11_thing_5 (by decide) ?_
    refine wp_goto (pc := 6) (tgt := 10) dX11_thing_6 (by decide) ?_
    refine wp_istore (pc := 10) (lv' := [_, _, _, _, _, _]) dX11_thing_10 (Nat.le_of_ble_eq_true rfl) rfl rfl ?_
    refine wp_iload_n (pc := 12) dX11_thing_12 rfl rfl ?_
    refine wp_iconst (pc := 13) (v := 2) dX11_thing_13 (by decide) ?_
    refine wp_icmp_ne (pc := 14) (tgt := 22) dX11_thing_14 (by decide) (fun z => absurd hk2 z) (fun _ => ?_)
    refine wp_bipush (pc := 17) (v := 100) dX11_thing_17 (by decide) ?_
    refine wp_goto (pc := 19) (tgt := 23) dX11_thing_19 (by decide) ?_
    refine wp_istore (pc := 23) (lv' := [_, _, _, _, _, _]) dX11_thing_23 (Nat.le_of_ble_eq_true rfl) rfl rfl ?_
    refine wp_iload_n (pc := 25) dX11_thing_25 rfl rfl ?_
    refine wp_iconst (pc := 26) (v := 0) dX11_thing_26 (by decide) ?_
    refine wp_iconst (pc := 27) (v := 4) dX11_thing_27 (by decide) ?_
    refine wc_SP (pc := 28) (μ2 := mX11_isWithin) (rc := 4) (rs := 620) [_, _, _] dX11_thing_28 rfl cs_X11_103 rfl ⟨(Nat.le_of_ble_eq_true rfl), (Nat.le_of_ble_eq_true rfl)⟩ (Nat.le_of_ble_eq_true rfl) (c_isWithin l G _ _ _ _) ?_
    refine wp_ifB_eq (pc := 31) (tgt := 56) dX11_thing_31 (by decide) (fun c31 => ?_) (fun c31 => ?_)
    · skip
      refine wp_bipush (pc := 56) (v := (-2)) dX11_thing_56 (by decide) ?_
      exact wp_iret (pc := 58) dX11_thing_58 rfl ⟨_, rfl, by unfold f_thing; rw [if_pos (by simp only [thingOk, c31, if_true, if_false, Bool.true_eq_false, Bool.false_eq_true, reduceIte, reduceCtorEq, Bool.not_true, Bool.not_false, true_and, and_true, and_false, false_and, or_true, true_or, or_false, false_or, not_true_eq_false, not_false_eq_true])], A, by unfold f_thing; rw [if_pos (by simp only [thingOk, c31, if_true, if_false, Bool.true_eq_false, Bool.false_eq_true, reduceIte, reduceCtorEq, Bool.not_true, Bool.not_false, true_and, and_true, and_false, false_and, or_true, true_or, or_false, false_or, not_true_eq_false, not_false_eq_true])]; exact hR, ext.refl A M⟩
    · skip
      refine wp_iload_n (pc := 34) dX11_thing_34 rfl rfl ?_
      refine wp_iconst (pc := 35) (v := 1) dX11_thing_35 (by decide) ?_
      refine wp_sipush (pc := 36) (v := 1000) dX11_thing_36 (by decide) ?_
      refine wc_SP (pc := 39) (μ2 := mX11_isWithin) (rc := 4) (rs := 620) [_, _, _] dX11_thing_39 rfl cs_X11_103 rfl ⟨(Nat.le_of_ble_eq_true rfl), (Nat.le_of_ble_eq_true rfl)⟩ (Nat.le_of_ble_eq_true rfl) (c_isWithin l G _ _ _ _) ?_
      refine wp_ifB_eq (pc := 42) (tgt := 56) dX11_thing_42 (by decide) (fun c42 => ?_) (fun c42 => ?_)
      · skip
        refine wp_bipush (pc := 56) (v := (-2)) dX11_thing_56 (by decide) ?_
        exact wp_iret (pc := 58) dX11_thing_58 rfl ⟨_, rfl, by unfold f_thing; rw [if_pos (by simp only [thingOk, c31, c42, if_true, if_false, Bool.true_eq_false, Bool.false_eq_true, reduceIte, reduceCtorEq, Bool.not_true, Bool.not_false, true_and, and_true, and_false, false_and, or_true, true_or, or_false, false_or, not_true_eq_false, not_false_eq_true])], A, by unfold f_thing; rw [if_pos (by simp only [thingOk, c31, c42, if_true, if_false, Bool.true_eq_false, Bool.false_eq_true, reduceIte, reduceCtorEq, Bool.not_true, Bool.not_false, true_and, and_true, and_false, false_and, or_true, true_or, or_false, false_or, not_true_eq_false, not_false_eq_true])]; exact hR, ext.refl A M⟩
      · skip
        refine wp_iload_n (pc := 45) dX11_thing_45 rfl rfl ?_
        refine wp_iload (pc := 46) dX11_thing_46 rfl ?_
        refine wp_iload (pc := 48) dX11_thing_48 rfl ?_
        refine wc_SP (pc := 50) (μ2 := mX11_isWithin) (rc := 4) (rs := 620) [_, _, _] dX11_thing_50 rfl cs_X11_103 rfl ⟨(Nat.le_of_ble_eq_true rfl), (Nat.le_of_ble_eq_true rfl)⟩ (Nat.le_of_ble_eq_true rfl) (c_isWithin l G _ _ _ _) ?_
        refine wp_ifB_ne (pc := 53) (tgt := 59) dX11_thing_53 (by decide) (fun c53 => ?_) (fun c53 => ?_)
        · have hok : thingOk k ln w = true := by simp only [thingOk, c31, c42, eq_true hk2, c53, if_true, if_false, Bool.true_eq_false, Bool.false_eq_true, reduceIte, reduceCtorEq, Bool.not_true, Bool.not_false, true_and, and_true, and_false, false_and, or_true, true_or, or_false, false_or, not_true_eq_false, not_false_eq_true]
          refine wp_aload_n (pc := 59) dX11_thing_59 rfl rfl ?_
          refine wp_get (pc := 60) dX11_thing_60 fl_X11_19_12 hR.bd rfl ?_
          refine wc_VP (pc := 63) (μ2 := mJx4a65c_size_8abf5) (rc := 4) (rs := 620) [] dX11_thing_63 rfl (hR.lst (ll := 2) (by omega)) rfl cv_X11_87_0 rfl ⟨(Nat.le_of_ble_eq_true rfl), (Nat.le_of_ble_eq_true rfl)⟩ (Nat.le_of_ble_eq_true rfl) (show SpP l G mJx4a65c_size_8abf5 [_] _ (.int (nI (nx (M.1 11)))) from j_size l G _ (hR.lst (ll := 2) (by omega))) ?_
          refine wp_bipush (pc := 66) (v := 20) dX11_thing_66 (by decide) ?_
          refine wp_icmp_lt (pc := 68) (tgt := 74) dX11_thing_68 (by decide) (fun c68 => ?_) (fun c68 => ?_)
          · have hK5 : nx (M.1 11) < 20 := (nI_ltI (by omega) (by decide)).mp c68
            have hc3 := cntS hN (show nx (M.1 11) < 1000 by omega)
            have c69 : ¬ M.1 11 = 20 := fun z => by rw [z] at hK5; exact absurd hK5 (by decide)
            have hz := hz hK5
            have hf : f_thing M k ln w = (M.1 11 + 1 - 1, sS (sI (sI (sI (sI M 12 (nx (M.1 11)) k) 13 (nx (M.1 11)) ln) 14 (nx (M.1 11)) w) 15 (nx (M.1 11)) (-1)) 11 (M.1 11 + 1)) := by unfold f_thing; rw [if_neg (by rw [hok]; decide), if_neg c69]
            refine wp_aload_n (pc := 74) dX11_thing_74 rfl rfl ?_
            refine wp_get (pc := 75) dX11_thing_75 fl_X11_19_12 hR.bd rfl ?_
            refine wp_aload_n (pc := 78) dX11_thing_78 rfl rfl ?_
            refine wp_iload_n (pc := 79) dX11_thing_79 rfl rfl ?_
            refine wp_iload_n (pc := 80) dX11_thing_80 rfl rfl ?_
            refine wp_iload_n (pc := 81) dX11_thing_81 rfl rfl ?_
            refine wc_VV (pc := 82) (μ2 := mX11_newThing) (rc := 1) (rs := 600) [_, _, _] dX11_thing_82 rfl hR.bd rfl cv_X11_107_12 rfl ⟨(Nat.le_of_ble_eq_true rfl), (Nat.le_of_ble_eq_true rfl)⟩ (Nat.le_of_ble_eq_true rfl) (c_newThing l G hR (fin04 c31) hd0) (fun r h q => ?_)
            obtain ⟨te, tg, tq, rfl, t2, t3, t4, t5, t6, t7⟩ := q
            have hR0 := hR
            have hR := hR.freshF (h' := h) t7
            refine wc_VV (pc := 85) (μ2 := mJx4a65c_add_9ea2d) (rc := 0) (rs := 0) [_] dX11_thing_85 rfl (hR.lst (ll := 2) (by omega)) rfl cv_X11_96_0 rfl ⟨(Nat.le_of_ble_eq_true rfl), (Nat.le_of_ble_eq_true rfl)⟩ (Nat.le_of_ble_eq_true rfl) (j_add l G _ (hR.lst (ll := 2) (by omega)) (hR.dat (by omega)) (fun z => if_pos z) (hR.cap (by omega)).1 (show len M 2 < 400 from by show nx (M.1 11) < 400; omega) (hR.cap (by omega)).2 t4 (canT _) (fun i hi => hR.vElt hT (by omega) hi)) (fun r h q => ?_)
            obtain ⟨rfl, b9, n9, h9⟩ := q
            obtain ⟨A9, hR, hE⟩ := RH.addN (hp := hp) (M' := sS (sI (sI (sI (sI M 12 (nx (M.1 11)) k) 13 (nx (M.1 11)) ln) 14 (nx (M.1 11)) w) 15 (nx (M.1 11)) (-1)) 11 (M.1 11 + 1)) (e := te) (gl := tg) (qa := tq) hR hT hN hK5 (fun f hf => by rw [sS_at, if_neg hf]; rfl) hc3.2.2 (fun f i hf => by have hn : ∀ g, g ∈ ([12, 13, 14, 15] : List Nat) → ¬ (f = g ∧ i = nx (M.1 11)) := fun g hg z => hf.elim (fun q => q (z.1 ▸ hg)) (fun q => q z.2); simp only [sS_1, sL_1, sI_at, hn 12 (by decide), hn 13 (by decide), hn 14 (by decide), hn 15 (by decide), if_false]) rfl hz.1 hz.2.1 (by rw [hpF_n t2, t4]; simp [sS, sI, fu, tXq, lng, lgv, hz.2.2.1, hz.2.2.2.1, hz.2.1]) (by rw [hpF_n t3, t5]) (fun k4 => by rw [hpF_n (t6 (by simpa [sS, sI, fu] using k4)).1, (t6 (by simpa [sS, sI, fu] using k4)).2]; exact congrArg some (congrArg (aI 8) (row8 (sS (sI (sI (sI (sI M 12 (nx (M.1 11)) k) 13 (nx (M.1 11)) ln) 14 (nx (M.1 11)) w) 15 (nx (M.1 11)) (-1)) 11 (M.1 11 + 1)) (nx (M.1 11)) (fun q hq => by rw [← hz.2.2.2.2 q hq]; simp [sS, sI, fu])).symm)) h9 (fun a x hx => ⟨hpF_s hR0 hx, hpF_ne hR0 hx t2, hpF_ne hR0 hx t3, fun k4 => hpF_ne hR0 hx (t6 (by simpa [sS, sI, fu] using k4)).1⟩) hR0.2.2.2.1
            refine wp_pop (pc := 88) dX11_thing_88 rfl ?_
            have e0 : A9.1 0 0 = A.1 0 0 := hE 0 0 (by decide) (by decide) (vl_0.mpr rfl)
            rw [← e0]
            refine wp_aload_n (pc := 89) dX11_thing_89 rfl rfl ?_
            refine wp_get (pc := 90) dX11_thing_90 fl_X11_19_12 hR.bd rfl ?_
            refine wc_VP (pc := 93) (μ2 := mJx4a65c_size_8abf5) (rc := 0) (rs := 0) [] dX11_thing_93 rfl (hR.lst (ll := 2) (by omega)) rfl cv_X11_87_0 rfl ⟨(Nat.le_of_ble_eq_true rfl), (Nat.le_of_ble_eq_true rfl)⟩ (Nat.le_of_ble_eq_true rfl) (show SpP l G mJx4a65c_size_8abf5 [_] _ (.int (nI (nx ((sS (sI (sI (sI (sI M 12 (nx (M.1 11)) k) 13 (nx (M.1 11)) ln) 14 (nx (M.1 11)) w) 15 (nx (M.1 11)) (-1)) 11 (M.1 11 + 1)).1 11)))) from j_size l G _ (hR.lst (ll := 2) (by omega))) ?_
            refine wp_iconst (pc := 96) (v := 1) dX11_thing_96 (by decide) ?_
            refine wp_isub (pc := 97) dX11_thing_97 ?_
            exact wp_iret (pc := 98) dX11_thing_98 rfl ⟨_, rfl, by rw [hf]; exact congrArg (fun z => Value.int (z - 1)) hc3.1, A9, by rw [hf]; exact hR, hE⟩
          · have c69 : M.1 11 = 20 := by rw [hN, lt_eq (n := 20) (by omega) (by decide) c68]; rfl
            refine wp_bipush (pc := 71) (v := (-4)) dX11_thing_71 (by decide) ?_
            exact wp_iret (pc := 73) dX11_thing_73 rfl ⟨_, rfl, by unfold f_thing; rw [if_neg (by rw [hok]; decide), if_pos c69], A, by unfold f_thing; rw [if_neg (by rw [hok]; decide), if_pos c69]; exact hR, ext.refl A M⟩
        · skip
          refine wp_bipush (pc := 56) (v := (-2)) dX11_thing_56 (by decide) ?_
          exact wp_iret (pc := 58) dX11_thing_58 rfl ⟨_, rfl, by unfold f_thing; rw [if_pos (by simp only [thingOk, c31, c42, c53, eq_true hk2, if_true, if_false, Bool.true_eq_false, Bool.false_eq_true, reduceIte, reduceCtorEq, Bool.not_true, Bool.not_false, true_and, and_true, and_false, false_and, or_true, true_or, or_false, false_or, not_true_eq_false, not_false_eq_true])], A, by unfold f_thing; rw [if_pos (by simp only [thingOk, c31, c42, c53, eq_true hk2, if_true, if_false, Bool.true_eq_false, Bool.false_eq_true, reduceIte, reduceCtorEq, Bool.not_true, Bool.not_false, true_and, and_true, and_false, false_and, or_true, true_or, or_false, false_or, not_true_eq_false, not_false_eq_true])]; exact hR, ext.refl A M⟩
  · refine wp_iload_n (pc := 0) dX11_thing_0 rfl rfl ?_
    refine wp_iconst (pc := 1) (v := 2) dX11_thing_1 (by decide) ?_
    refine wp_icmp_ne (pc := 2) (tgt := 9) dX11_thing_2 (by decide) (fun _ => ?_) (fun z => absurd z hk2)
    refine wp_iconst (pc := 9) (v := 0) dX11_thing_9 (by decide) ?_
    refine wp_istore (pc := 10) (lv' := [_, _, _, _, _, _]) dX11_thing_10 (Nat.le_of_ble_eq_true rfl) rfl rfl ?_
    refine wp_iload_n (pc := 12) dX11_thing_12 rfl rfl ?_
    refine wp_iconst (pc := 13) (v := 2) dX11_thing_13 (by decide) ?_
    refine wp_icmp_ne (pc := 14) (tgt := 22) dX11_thing_14 (by decide) (fun _ => ?_) (fun z => absurd z hk2)
    refine wp_iconst (pc := 22) (v := 0) dX11_thing_22 (by decide) ?_
    refine wp_istore (pc := 23) (lv' := [_, _, _, _, _, _]) dX11_thing_23 (Nat.le_of_ble_eq_true rfl) rfl rfl ?_
    refine wp_iload_n (pc := 25) dX11_thing_25 rfl rfl ?_
    refine wp_iconst (pc := 26) (v := 0) dX11_thing_26 (by decide) ?_
    refine wp_iconst (pc := 27) (v := 4) dX11_thing_27 (by decide) ?_
    refine wc_SP (pc := 28) (μ2 := mX11_isWithin) (rc := 4) (rs := 620) [_, _, _] dX11_thing_28 rfl cs_X11_103 rfl ⟨(Nat.le_of_ble_eq_true rfl), (Nat.le_of_ble_eq_true rfl)⟩ (Nat.le_of_ble_eq_true rfl) (c_isWithin l G _ _ _ _) ?_
    refine wp_ifB_eq (pc := 31) (tgt := 56) dX11_thing_31 (by decide) (fun c31 => ?_) (fun c31 => ?_)
    · skip
      refine wp_bipush (pc := 56) (v := (-2)) dX11_thing_56 (by decide) ?_
      exact wp_iret (pc := 58) dX11_thing_58 rfl ⟨_, rfl, by unfold f_thing; rw [if_pos (by simp only [thingOk, c31, if_true, if_false, Bool.true_eq_false, Bool.false_eq_true, reduceIte, reduceCtorEq, Bool.not_true, Bool.not_false, true_and, and_true, and_false, false_and, or_true, true_or, or_false, false_or, not_true_eq_false, not_false_eq_true])], A, by unfold f_thing; rw [if_pos (by simp only [thingOk, c31, if_true, if_false, Bool.true_eq_false, Bool.false_eq_true, reduceIte, reduceCtorEq, Bool.not_true, Bool.not_false, true_and, and_true, and_false, false_and, or_true, true_or, or_false, false_or, not_true_eq_false, not_false_eq_true])]; exact hR, ext.refl A M⟩
    · skip
      refine wp_iload_n (pc := 34) dX11_thing_34 rfl rfl ?_
      refine wp_iconst (pc := 35) (v := 1) dX11_thing_35 (by decide) ?_
      refine wp_sipush (pc := 36) (v := 1000) dX11_thing_36 (by decide) ?_
      refine wc_SP (pc := 39) (μ2 := mX11_isWithin) (rc := 4) (rs := 620) [_, _, _] dX11_thing_39 rfl cs_X11_103 rfl ⟨(Nat.le_of_ble_eq_true rfl), (Nat.le_of_ble_eq_true rfl)⟩ (Nat.le_of_ble_eq_true rfl) (c_isWithin l G _ _ _ _) ?_
      refine wp_ifB_eq (pc := 42) (tgt := 56) dX11_thing_42 (by decide) (fun c42 => ?_) (fun c42 => ?_)
      · skip
        refine wp_bipush (pc := 56) (v := (-2)) dX11_thing_56 (by decide) ?_
        exact wp_iret (pc := 58) dX11_thing_58 rfl ⟨_, rfl, by unfold f_thing; rw [if_pos (by simp only [thingOk, c31, c42, if_true, if_false, Bool.true_eq_false, Bool.false_eq_true, reduceIte, reduceCtorEq, Bool.not_true, Bool.not_false, true_and, and_true, and_false, false_and, or_true, true_or, or_false, false_or, not_true_eq_false, not_false_eq_true])], A, by unfold f_thing; rw [if_pos (by simp only [thingOk, c31, c42, if_true, if_false, Bool.true_eq_false, Bool.false_eq_true, reduceIte, reduceCtorEq, Bool.not_true, Bool.not_false, true_and, and_true, and_false, false_and, or_true, true_or, or_false, false_or, not_true_eq_false, not_false_eq_true])]; exact hR, ext.refl A M⟩
      · skip
        refine wp_iload_n (pc := 45) dX11_thing_45 rfl rfl ?_
        refine wp_iload (pc := 46) dX11_thing_46 rfl ?_
        refine wp_iload (pc := 48) dX11_thing_48 rfl ?_
        refine wc_SP (pc := 50) (μ2 := mX11_isWithin) (rc := 4) (rs := 620) [_, _, _] dX11_thing_50 rfl cs_X11_103 rfl ⟨(Nat.le_of_ble_eq_true rfl), (Nat.le_of_ble_eq_true rfl)⟩ (Nat.le_of_ble_eq_true rfl) (c_isWithin l G _ _ _ _) ?_
        refine wp_ifB_ne (pc := 53) (tgt := 59) dX11_thing_53 (by decide) (fun c53 => ?_) (fun c53 => ?_)
        · have hok : thingOk k ln w = true := by simp only [thingOk, c31, c42, eq_false hk2, ← fin00, c53, if_true, if_false, Bool.true_eq_false, Bool.false_eq_true, reduceIte, reduceCtorEq, Bool.not_true, Bool.not_false, true_and, and_true, and_false, false_and, or_true, true_or, or_false, false_or, not_true_eq_false, not_false_eq_true]
          refine wp_aload_n (pc := 59) dX11_thing_59 rfl rfl ?_
          refine wp_get (pc := 60) dX11_thing_60 fl_X11_19_12 hR.bd rfl ?_
          refine wc_VP (pc := 63) (μ2 := mJx4a65c_size_8abf5) (rc := 4) (rs := 620) [] dX11_thing_63 rfl (hR.lst (ll := 2) (by omega)) rfl cv_X11_87_0 rfl ⟨(Nat.le_of_ble_eq_true rfl), (Nat.le_of_ble_eq_true rfl)⟩ (Nat.le_of_ble_eq_true rfl) (show SpP l G mJx4a65c_size_8abf5 [_] _ (.int (nI (nx (M.1 11)))) from j_size l G _ (hR.lst (ll := 2) (by omega))) ?_
          refine wp_bipush (pc := 66) (v := 20) dX11_thing_66 (by decide) ?_
          refine wp_icmp_lt (pc := 68) (tgt := 74) dX11_thing_68 (by decide) (fun c68 => ?_) (fun c68 => ?_)
          · have hK5 : nx (M.1 11) < 20 := (nI_ltI (by omega) (by decide)).mp c68
            have hc3 := cntS hN (show nx (M.1 11) < 1000 by omega)
            have c69 : ¬ M.1 11 = 20 := fun z => by rw [z] at hK5; exact absurd hK5 (by decide)
            have hz := hz hK5
            have hf : f_thing M k ln w = (M.1 11 + 1 - 1, sS (sI (sI (sI (sI M 12 (nx (M.1 11)) k) 13 (nx (M.1 11)) ln) 14 (nx (M.1 11)) w) 15 (nx (M.1 11)) (-1)) 11 (M.1 11 + 1)) := by unfold f_thing; rw [if_neg (by rw [hok]; decide), if_neg c69]
            refine wp_aload_n (pc := 74) dX11_thing_74 rfl rfl ?_
            refine wp_get (pc := 75) dX11_thing_75 fl_X11_19_12 hR.bd rfl ?_
            refine wp_aload_n (pc := 78) dX11_thing_78 rfl rfl ?_
            refine wp_iload_n (pc := 79) dX11_thing_79 rfl rfl ?_
            refine wp_iload_n (pc := 80) dX11_thing_80 rfl rfl ?_
            refine wp_iload_n (pc := 81) dX11_thing_81 rfl rfl ?_
            refine wc_VV (pc := 82) (μ2 := mX11_newThing) (rc := 1) (rs := 600) [_, _, _] dX11_thing_82 rfl hR.bd rfl cv_X11_107_12 rfl ⟨(Nat.le_of_ble_eq_true rfl), (Nat.le_of_ble_eq_true rfl)⟩ (Nat.le_of_ble_eq_true rfl) (c_newThing l G hR (fin04 c31) hd0) (fun r h q => ?_)
            obtain ⟨te, tg, tq, rfl, t2, t3, t4, t5, t6, t7⟩ := q
            have hR0 := hR
            have hR := hR.freshF (h' := h) t7
            refine wc_VV (pc := 85) (μ2 := mJx4a65c_add_9ea2d) (rc := 0) (rs := 0) [_] dX11_thing_85 rfl (hR.lst (ll := 2) (by omega)) rfl cv_X11_96_0 rfl ⟨(Nat.le_of_ble_eq_true rfl), (Nat.le_of_ble_eq_true rfl)⟩ (Nat.le_of_ble_eq_true rfl) (j_add l G _ (hR.lst (ll := 2) (by omega)) (hR.dat (by omega)) (fun z => if_pos z) (hR.cap (by omega)).1 (show len M 2 < 400 from by show nx (M.1 11) < 400; omega) (hR.cap (by omega)).2 t4 (canT _) (fun i hi => hR.vElt hT (by omega) hi)) (fun r h q => ?_)
            obtain ⟨rfl, b9, n9, h9⟩ := q
            obtain ⟨A9, hR, hE⟩ := RH.addN (hp := hp) (M' := sS (sI (sI (sI (sI M 12 (nx (M.1 11)) k) 13 (nx (M.1 11)) ln) 14 (nx (M.1 11)) w) 15 (nx (M.1 11)) (-1)) 11 (M.1 11 + 1)) (e := te) (gl := tg) (qa := tq) hR hT hN hK5 (fun f hf => by rw [sS_at, if_neg hf]; rfl) hc3.2.2 (fun f i hf => by have hn : ∀ g, g ∈ ([12, 13, 14, 15] : List Nat) → ¬ (f = g ∧ i = nx (M.1 11)) := fun g hg z => hf.elim (fun q => q (z.1 ▸ hg)) (fun q => q z.2); simp only [sS_1, sL_1, sI_at, hn 12 (by decide), hn 13 (by decide), hn 14 (by decide), hn 15 (by decide), if_false]) rfl hz.1 hz.2.1 (by rw [hpF_n t2, t4]; simp [sS, sI, fu, tXq, lng, lgv, hz.2.2.1, hz.2.2.2.1, hz.2.1]) (by rw [hpF_n t3, t5]) (fun k4 => by rw [hpF_n (t6 (by simpa [sS, sI, fu] using k4)).1, (t6 (by simpa [sS, sI, fu] using k4)).2]; exact congrArg some (congrArg (aI 8) (row8 (sS (sI (sI (sI (sI M 12 (nx (M.1 11)) k) 13 (nx (M.1 11)) ln) 14 (nx (M.1 11)) w) 15 (nx (M.1 11)) (-1)) 11 (M.1 11 + 1)) (nx (M.1 11)) (fun q hq => by rw [← hz.2.2.2.2 q hq]; simp [sS, sI, fu])).symm)) h9 (fun a x hx => ⟨hpF_s hR0 hx, hpF_ne hR0 hx t2, hpF_ne hR0 hx t3, fun k4 => hpF_ne hR0 hx (t6 (by simpa [sS, sI, fu] using k4)).1⟩) hR0.2.2.2.1
            refine wp_pop (pc := 88) dX11_thing_88 rfl ?_
            have e0 : A9.1 0 0 = A.1 0 0 := hE 0 0 (by decide) (by decide) (vl_0.mpr rfl)
            rw [← e0]
            refine wp_aload_n (pc := 89) dX11_thing_89 rfl rfl ?_
            refine wp_get (pc := 90) dX11_thing_90 fl_X11_19_12 hR.bd rfl ?_
            refine wc_VP (pc := 93) (μ2 := mJx4a65c_size_8abf5) (rc := 0) (rs := 0) [] dX11_thing_93 rfl (hR.lst (ll := 2) (by omega)) rfl cv_X11_87_0 rfl ⟨(Nat.le_of_ble_eq_true rfl), (Nat.le_of_ble_eq_true rfl)⟩ (Nat.le_of_ble_eq_true rfl) (show SpP l G mJx4a65c_size_8abf5 [_] _ (.int (nI (nx ((sS (sI (sI (sI (sI M 12 (nx (M.1 11)) k) 13 (nx (M.1 11)) ln) 14 (nx (M.1 11)) w) 15 (nx (M.1 11)) (-1)) 11 (M.1 11 + 1)).1 11)))) from j_size l G _ (hR.lst (ll := 2) (by omega))) ?_
            refine wp_iconst (pc := 96) (v := 1) dX11_thing_96 (by decide) ?_
            refine wp_isub (pc := 97) dX11_thing_97 ?_
            exact wp_iret (pc := 98) dX11_thing_98 rfl ⟨_, rfl, by rw [hf]; exact congrArg (fun z => Value.int (z - 1)) hc3.1, A9, by rw [hf]; exact hR, hE⟩
          · have c69 : M.1 11 = 20 := by rw [hN, lt_eq (n := 20) (by omega) (by decide) c68]; rfl
            refine wp_bipush (pc := 71) (v := (-4)) dX11_thing_71 (by decide) ?_
            exact wp_iret (pc := 73) dX11_thing_73 rfl ⟨_, rfl, by unfold f_thing; rw [if_neg (by rw [hok]; decide), if_pos c69], A, by unfold f_thing; rw [if_neg (by rw [hok]; decide), if_pos c69]; exact hR, ext.refl A M⟩
        · skip
          refine wp_bipush (pc := 56) (v := (-2)) dX11_thing_56 (by decide) ?_
          exact wp_iret (pc := 58) dX11_thing_58 rfl ⟨_, rfl, by unfold f_thing; rw [if_pos (by simp only [thingOk, c31, c42, c53, eq_false hk2, ← fin00, if_true, if_false, Bool.true_eq_false, Bool.false_eq_true, reduceIte, reduceCtorEq, Bool.not_true, Bool.not_false, true_and, and_true, and_false, false_and, or_true, true_or, or_false, false_or, not_true_eq_false, not_false_eq_true])], A, by unfold f_thing; rw [if_pos (by simp only [thingOk, c31, c42, c53, eq_false hk2, ← fin00, if_true, if_false, Bool.true_eq_false, Bool.false_eq_true, reduceIte, reduceCtorEq, Bool.not_true, Bool.not_false, true_and, and_true, and_false, false_and, or_true, true_or, or_false, false_or, not_true_eq_false, not_false_eq_true])]; exact hR, ext.refl A M⟩
end K14
