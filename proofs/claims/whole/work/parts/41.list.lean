/-! ===== ArrayList ===== -/
theorem shr1 : ∀ c, c < 601 → nI c >>> ((1 : Int32) &&& 31) = nI (c / 2) := by decide +kernel
theorem jmax_n {a b : Nat} (ha : a < 2 ^ 31) (hb : b < 2 ^ 31) : jmax (nI a) (nI b) = nI (max a b) := by
  unfold jmax
  by_cases h : a < b
  · rw [if_pos (nI_lt h hb), Nat.max_eq_right (Nat.le_of_lt h)]
  · rw [if_neg (nI_nlt (Nat.not_lt.mp h) ha), Nat.max_eq_left (Nat.not_lt.mp h)]
theorem jmin_n {a b : Nat} (ha : a < 2 ^ 31) (hb : b < 2 ^ 31) : jmin (nI a) (nI b) = nI (min a b) := by
  unfold jmin
  by_cases h : b < a
  · rw [if_pos (nI_lt h ha), Nat.min_eq_right (Nat.le_of_lt h)]
  · rw [if_neg (nI_nlt (Nat.not_lt.mp h) hb), Nat.min_eq_left (Nat.not_lt.mp h)]
theorem nI_sub (a b : Nat) : nI (a + b) - nI b = nI a := by rw [← nI_add]; exact Int32.add_sub_cancel ..
theorem lstF_cpy (n : Nat) (el : Nat → Nat) : va_cpy (lstF n el) (fun _ => none) 0 0 n = lstF n el := by
  funext i
  unfold va_cpy lstF
  by_cases h : i < n
  · simp [h]
  · simp [h]
/-- the cells of objects that a list may hold -/
def isO (h : Hp) (y : Nat) : Prop := ∃ (ci : Nat) (fs : List Value), h y = some (oB ci fs) ∧ canSt 3 ci
section JL
variable (l : Launch) (G : WG)
theorem j_newLen (c g p : Nat) (h : Hp) (hb : 0 < c + max g p ∧ c + max g p ≤ 1000) : SpP l G mJ8_newLength_cabcc [.int (nI c), .int (nI g), .int (nI p)] h (.int (nI (c + max g p))) := by
  refine Sp.intro (lv := [_, _, _, _]) (by decide) rfl (Nat.le_of_ble_eq_true rfl) ?_
  refine wp_iload_n (pc := 0) dJ8_newLength_cabcc_0 rfl rfl ?_
  refine wp_iload_n (pc := 1) dJ8_newLength_cabcc_1 rfl rfl ?_
  refine wp_iload_n (pc := 2) dJ8_newLength_cabcc_2 rfl rfl ?_
  refine wc_SP (pc := 3) (μ2 := mJ9_max_7cf53) (rc := 0) (rs := 0) [_, _] dJ8_newLength_cabcc_3 rfl cs_J8_194 rfl ⟨(Nat.le_of_ble_eq_true rfl), (Nat.le_of_ble_eq_true rfl)⟩ (Nat.le_of_ble_eq_true rfl) (j_max l G _ _ h) ?_
  rw [jmax_n (by omega) (by omega)]
  refine wp_iadd (pc := 6) dJ8_newLength_cabcc_6 ?_
  rw [nI_add]
  refine wp_istore_n (pc := 7) (lv' := [_, _, _, _]) dJ8_newLength_cabcc_7 rfl (Nat.le_of_ble_eq_true rfl) rfl rfl ?_
  refine wp_iconst (pc := 8) (v := 0) dJ8_newLength_cabcc_8 (by decide) ?_
  refine wp_iload_n (pc := 9) dJ8_newLength_cabcc_9 rfl rfl ?_
  refine wp_icmp_ge (pc := 10) (tgt := 21) dJ8_newLength_cabcc_10 (by decide) (fun z => absurd z (nI_ge (a := 0) (by omega) (by omega))) (fun _ => ?_)
  refine wp_iload_n (pc := 13) dJ8_newLength_cabcc_13 rfl rfl ?_
  refine wp_ldc (pc := 14) dJ8_newLength_cabcc_14 w1_201 ?_
  refine wp_icmp_gt (pc := 16) (tgt := 21) dJ8_newLength_cabcc_16 (by decide) (fun z => absurd z (nI_nlt (a := 2147483639) (by omega) (by decide))) (fun _ => ?_)
  refine wp_iload_n (pc := 19) dJ8_newLength_cabcc_19 rfl rfl ?_
  exact wp_iret (pc := 20) dJ8_newLength_cabcc_20 rfl ⟨rfl, rfl⟩
theorem j_copyOf3 {d n cap N : Nat} {el : Nat → Nat} (h : Hp) (hd0 : h d = some (aR 3 cap (lstF n el))) (hn : n = cap) (hN : cap ≤ N ∧ 0 < cap ∧ N ≤ 600) (hel : ∀ i, i < n → isO h (el i)) : SpV l G mJ7_copyOf_6403c [.ref d, .int (nI N), .ref (gM G)] h (fun r h' => ∃ b, r = .ref b ∧ h b = none ∧ h' b = some (aR 3 N (lstF n el)) ∧ ∀ q, q ≠ b → h' q = h q) := by
  refine Sp.intro (lv := [_, _, _, _]) (by decide) rfl (Nat.le_of_ble_eq_true rfl) ?_
  refine wp_aload_n (pc := 0) dJ7_copyOf_6403c_0 rfl rfl ?_
  refine wp_ldcM (pc := 1) dJ7_copyOf_6403c_1 w1_229 ?_
  refine wp_acmp_ne (pc := 3) (tgt := 13) (rx := some (gM G)) (ry := some (gM G)) dJ7_copyOf_6403c_3 (by decide) (fun z => absurd rfl z) (fun _ => ?_)
  refine wp_iload_n (pc := 6) dJ7_copyOf_6403c_6 rfl rfl ?_
  refine wp_widen (rc' := 0 + 1) (rs' := 0 + N) (by decide) (by simp only [Nat.zero_add]; exact Nat.le_trans (show N ≤ 600 by omega) (by decide)) ?_
  refine wp_newq (pc := 7) (N := N) (Or.inl rfl) rfl dJ7_copyOf_6403c_7 w1_231 rfl (by omega) (fun b hb _ => ?_)
  have hab : d ≠ b := fun e => by rw [e, hb] at hd0; cases hd0
  refine wp_goto (pc := 10) (tgt := 24) dJ7_copyOf_6403c_10 (by decide) ?_
  refine wp_astore_n (pc := 24) (lv' := [_, _, _, _]) dJ7_copyOf_6403c_24 rfl (Nat.le_of_ble_eq_true rfl) rfl rfl ?_
  refine wp_aload_n (pc := 25) dJ7_copyOf_6403c_25 rfl rfl ?_
  refine wp_iconst (pc := 26) (v := 0) dJ7_copyOf_6403c_26 (by decide) ?_
  refine wp_aload_n (pc := 27) dJ7_copyOf_6403c_27 rfl rfl ?_
  refine wp_iconst (pc := 28) (v := 0) dJ7_copyOf_6403c_28 (by decide) ?_
  refine wp_aload_n (pc := 29) dJ7_copyOf_6403c_29 rfl rfl ?_
  refine wp_alen (k := 3) (pc := 30) (by decide) dJ7_copyOf_6403c_30 (by rw [up_n _ hab]; exact hd0) ?_
  refine wp_iload_n (pc := 31) dJ7_copyOf_6403c_31 rfl rfl ?_
  refine wc_SP (pc := 32) (μ2 := mJ9_min_7cf53) (rc := 0) (rs := 0) [_, _] dJ7_copyOf_6403c_32 rfl cs_J7_304 rfl ⟨(Nat.le_of_ble_eq_true rfl), (Nat.le_of_ble_eq_true rfl)⟩ (Nat.le_of_ble_eq_true rfl) (j_min l G _ _ _) ?_
  rw [jmin_n (by omega) (by omega), show min cap N = n by omega]
  refine wp_copy (pc := 35) (sp := 0) (dp := 0) (n := n) (n0 := cap) (n1 := N) (f := lstF n el) dJ7_copyOf_6403c_35 ac_J7_150 (by rw [up_n _ hab]; exact hd0) (up_s ..) rfl rfl (by rfl) (by omega) (by omega) (by omega) (by omega) (by omega) (fun i hi y hy => ?_) (Nat.le_of_ble_eq_true rfl) ⟨(Nat.le_of_ble_eq_true rfl), (Nat.le_of_ble_eq_true rfl)⟩ ?_
  · have hi : i < n := hi
    rw [Nat.zero_add, lstF_i el hi] at hy
    cases hy
    obtain ⟨ci, fs, q1, q2⟩ := hel i hi
    exact ⟨ci, fs, by rw [up_n _ (fun e => by rw [e, hb] at q1; cases q1)]; exact q1, q2⟩
  rw [lstF_cpy]
  refine wp_aload_n (pc := 38) dJ7_copyOf_6403c_38 rfl rfl ?_
  exact wp_aret (r := some b) (pc := 39) dJ7_copyOf_6403c_39 rfl (Or.inr ⟨_, rfl⟩) ⟨_, rfl, b, rfl, hb, up_s .., fun q hq => by rw [up_n _ hq, up_n _ hq]⟩
theorem j_copyOf {d n cap N : Nat} {el : Nat → Nat} (h : Hp) (hd0 : h d = some (aR 3 cap (lstF n el))) (hn : n = cap) (hN : cap ≤ N ∧ 0 < cap ∧ N ≤ 600) (hel : ∀ i, i < n → isO h (el i)) : SpV l G mJ7_copyOf_1904c [.ref d, .int (nI N)] h (fun r h' => ∃ b, r = .ref b ∧ h b = none ∧ h' b = some (aR 3 N (lstF n el)) ∧ ∀ q, q ≠ b → h' q = h q) := by
  refine Sp.intro (lv := [_, _]) (by decide) rfl (Nat.le_of_ble_eq_true rfl) ?_
  refine wp_aload_n (pc := 0) dJ7_copyOf_1904c_0 rfl rfl ?_
  refine wp_iload_n (pc := 1) dJ7_copyOf_1904c_1 rfl rfl ?_
  refine wp_aload_n (pc := 2) dJ7_copyOf_1904c_2 rfl rfl ?_
  refine wp_getClass (pc := 3) dJ7_copyOf_1904c_3 gc_J7_86 hd0 (by omega) (Nat.le_of_ble_eq_true rfl) ⟨(Nat.le_of_ble_eq_true rfl), (Nat.le_of_ble_eq_true rfl)⟩ ?_
  refine wc_SV (pc := 6) (μ2 := mJ7_copyOf_6403c) (rc := 0) (rs := 0) [_, _, _] dJ7_copyOf_1904c_6 rfl cs_J7_300 rfl ⟨(Nat.le_of_ble_eq_true rfl), (Nat.le_of_ble_eq_true rfl)⟩ (Nat.le_of_ble_eq_true rfl) (j_copyOf3 l G h hd0 hn hN hel) (fun r h q => ?_)
  obtain ⟨b, rfl, q1, q2, q3⟩ := q
  exact wp_aret (r := some b) (pc := 9) dJ7_copyOf_1904c_9 rfl (Or.inr ⟨_, rfl⟩) ⟨_, rfl, b, rfl, q1, q2, q3⟩
theorem Sp.of_eq {l : Launch} {G : WG} {μ : MI} {av av' : List Value} {h : Hp} {Q : Option Value → Hp → Prop} (e : av = av') (hS : Sp l G μ av h Q) : Sp l G μ av' h Q := e ▸ hS
theorem j_grow1 {a d n cap : Nat} {mc : Int32} {el : Nat → Nat} (h : Hp) (ha : h a = some (oB 0 [.int mc, .ref d, .int (nI n)])) (hd0 : h d = some (aR 3 cap (lstF n el))) (hc0 : cap = 0 → d = gE G) (hn : n = cap) (hn4 : n < 400) (hel : ∀ i, i < n → isO h (el i)) : SpV l G mJx4a65c_grow_92f84 [.ref a, .int (nI n + 1)] h (fun r h' => ∃ b N, r = .ref b ∧ h b = none ∧ n < N ∧ N ≤ 600 ∧ h' b = some (aR 3 N (lstF n el)) ∧ h' a = some (oB 0 [.int mc, .ref b, .int (nI n)]) ∧ ∀ q, q ≠ a → q ≠ b → h' q = h q) := by
  refine Sp.intro (lv := [_, _, _, _]) (by decide) rfl (Nat.le_of_ble_eq_true rfl) ?_
  have hne : a ≠ d := fun e => by rw [e, hd0] at ha; cases ha
  rcases Nat.eq_zero_or_pos cap with hz | hp
  · have hdE := hc0 hz
    subst hz; subst hn
    refine wp_aload_n (pc := 0) dJx4a65c_grow_92f84_0 rfl rfl ?_
    refine wp_get (pc := 1) dJx4a65c_grow_92f84_1 fl_Jx4a65c_9_0 ha rfl ?_
    refine wp_alen (k := 3) (pc := 4) (by decide) dJx4a65c_grow_92f84_4 hd0 ?_
    refine wp_istore_n (pc := 5) (lv' := [_, _, _, _]) dJx4a65c_grow_92f84_5 rfl (Nat.le_of_ble_eq_true rfl) rfl rfl ?_
    refine wp_iload_n (pc := 6) dJx4a65c_grow_92f84_6 rfl rfl ?_
    refine wp_if_gt (pc := 7) (tgt := 20) dJx4a65c_grow_92f84_7 (by decide) (fun z => absurd z (by decide)) (fun _ => ?_)
    refine wp_aload_n (pc := 10) dJx4a65c_grow_92f84_10 rfl rfl ?_
    refine wp_get (pc := 11) dJx4a65c_grow_92f84_11 fl_Jx4a65c_9_0 ha rfl ?_
    refine wp_gets (pc := 14) dJx4a65c_grow_92f84_14 w1_43 ?_
    refine wp_acmp_eq (pc := 17) (tgt := 45) (rx := some d) (ry := some (gE G)) dJx4a65c_grow_92f84_17 (by decide) (fun _ => ?_) (fun z => absurd (by rw [hdE]) z)
    refine wp_aload_n (pc := 45) dJx4a65c_grow_92f84_45 rfl rfl ?_
    refine wp_bipush (pc := 46) (v := 10) dJx4a65c_grow_92f84_46 (by decide) ?_
    refine wp_iload_n (pc := 48) dJx4a65c_grow_92f84_48 rfl rfl ?_
    refine wc_SP (pc := 49) (μ2 := mJ9_max_7cf53) (rc := 1) (rs := 600) [_, _] dJx4a65c_grow_92f84_49 rfl cs_Jx4a65c_79 rfl ⟨(Nat.le_of_ble_eq_true rfl), (Nat.le_of_ble_eq_true rfl)⟩ (Nat.le_of_ble_eq_true rfl) (j_max l G _ _ _) ?_
    rw [show jmax 10 (nI 0 + 1) = nI 10 by decide]
    refine wp_widen (rc' := 0 + 1) (rs' := 0 + 10) (by decide) (by simp only [Nat.zero_add]; exact Nat.le_trans (show 10 ≤ 600 by omega) (by decide)) ?_
    refine wp_newq (pc := 52) (N := 10) (Or.inl rfl) rfl dJx4a65c_grow_92f84_52 w1_237 rfl (by omega) (fun b hb _ => ?_)
    refine wp_dup_x1 (pc := 55) dJx4a65c_grow_92f84_55 rfl rfl ?_
    have hab : a ≠ b := fun e => by rw [e, hb] at ha; cases ha
    refine wp_put (pc := 56) dJx4a65c_grow_92f84_56 fl_Jx4a65c_9_0 (by rw [up_n _ hab]; exact ha) (Or.inl rfl) (Nat.le_of_ble_eq_true rfl) rfl rfl ?_
    exact wp_aret (r := some b) (pc := 59) dJx4a65c_grow_92f84_59 rfl (Or.inr ⟨_, rfl⟩) ⟨_, rfl, b, 10, rfl, hb, by decide, by decide, by rw [up_n _ (Ne.symm hab), up_s, lstF_0], by rw [up_s]; rfl, fun q h1 h2 => by rw [up_n _ h1, up_n _ h2]⟩
  · subst hn
    refine wp_aload_n (pc := 0) dJx4a65c_grow_92f84_0 rfl rfl ?_
    refine wp_get (pc := 1) dJx4a65c_grow_92f84_1 fl_Jx4a65c_9_0 ha rfl ?_
    refine wp_alen (k := 3) (pc := 4) (by decide) dJx4a65c_grow_92f84_4 hd0 ?_
    refine wp_istore_n (pc := 5) (lv' := [_, _, _, _]) dJx4a65c_grow_92f84_5 rfl (Nat.le_of_ble_eq_true rfl) rfl rfl ?_
    refine wp_iload_n (pc := 6) dJx4a65c_grow_92f84_6 rfl rfl ?_
    refine wp_if_gt (pc := 7) (tgt := 20) dJx4a65c_grow_92f84_7 (by decide) (fun _ => ?_) (fun z => absurd (nI_lt (a := 0) hp (by omega)) z)
    refine wp_iload_n (pc := 20) dJx4a65c_grow_92f84_20 rfl rfl ?_
    refine wp_iload_n (pc := 21) dJx4a65c_grow_92f84_21 rfl rfl ?_
    refine wp_iload_n (pc := 22) dJx4a65c_grow_92f84_22 rfl rfl ?_
    refine wp_isub (pc := 23) dJx4a65c_grow_92f84_23 ?_
    refine wp_iload_n (pc := 24) dJx4a65c_grow_92f84_24 rfl rfl ?_
    refine wp_iconst (pc := 25) (v := 1) dJx4a65c_grow_92f84_25 (by decide) ?_
    refine wp_ishr (pc := 26) dJx4a65c_grow_92f84_26 ?_
    refine wc_SP (pc := 27) (μ2 := mJ8_newLength_cabcc) (rc := 1) (rs := 600) [_, _, _] dJx4a65c_grow_92f84_27 rfl cs_Jx4a65c_73 rfl ⟨(Nat.le_of_ble_eq_true rfl), (Nat.le_of_ble_eq_true rfl)⟩ (Nat.le_of_ble_eq_true rfl) (Sp.of_eq (by rw [show nI n + 1 - nI n = nI 1 by rw [nI_1, Nat.add_comm, nI_sub], shr1 n (by omega)]) (j_newLen l G n 1 (n / 2) h (by omega))) ?_
    refine wp_istore_n (pc := 30) (lv' := [_, _, _, _]) dJx4a65c_grow_92f84_30 rfl (Nat.le_of_ble_eq_true rfl) rfl rfl ?_
    refine wp_aload_n (pc := 31) dJx4a65c_grow_92f84_31 rfl rfl ?_
    refine wp_aload_n (pc := 32) dJx4a65c_grow_92f84_32 rfl rfl ?_
    refine wp_get (pc := 33) dJx4a65c_grow_92f84_33 fl_Jx4a65c_9_0 ha rfl ?_
    refine wp_iload_n (pc := 36) dJx4a65c_grow_92f84_36 rfl rfl ?_
    refine wc_SV (pc := 37) (μ2 := mJ7_copyOf_1904c) (rc := 0) (rs := 0) [_, _] dJx4a65c_grow_92f84_37 rfl cs_Jx4a65c_66 rfl ⟨(Nat.le_of_ble_eq_true rfl), (Nat.le_of_ble_eq_true rfl)⟩ (Nat.le_of_ble_eq_true rfl) (j_copyOf l G h hd0 rfl (by omega) hel) (fun r h q => ?_)
    obtain ⟨b, rfl, q1, q2, q3⟩ := q
    have hab : a ≠ b := fun e => by rw [e, q1] at ha; cases ha
    refine wp_dup_x1 (pc := 40) dJx4a65c_grow_92f84_40 rfl rfl ?_
    refine wp_put (pc := 41) dJx4a65c_grow_92f84_41 fl_Jx4a65c_9_0 (by rw [q3 a hab]; exact ha) (Or.inl rfl) (Nat.le_of_ble_eq_true rfl) rfl rfl ?_
    exact wp_aret (r := some b) (pc := 44) dJx4a65c_grow_92f84_44 rfl (Or.inr ⟨_, rfl⟩) ⟨_, rfl, b, n + max 1 (n / 2), rfl, q1, by omega, by omega, by rw [up_n _ (Ne.symm hab)]; exact q2, by rw [up_s]; rfl, fun q h1 h2 => by rw [up_n _ h1]; exact q3 q h2⟩
theorem j_grow {a d n cap : Nat} {mc : Int32} {el : Nat → Nat} (h : Hp) (ha : h a = some (oB 0 [.int mc, .ref d, .int (nI n)])) (hd0 : h d = some (aR 3 cap (lstF n el))) (hc0 : cap = 0 → d = gE G) (hn : n = cap) (hn4 : n < 400) (hel : ∀ i, i < n → isO h (el i)) : SpV l G mJx4a65c_grow_d5877 [.ref a] h (fun r h' => ∃ b N, r = .ref b ∧ h b = none ∧ n < N ∧ N ≤ 600 ∧ h' b = some (aR 3 N (lstF n el)) ∧ h' a = some (oB 0 [.int mc, .ref b, .int (nI n)]) ∧ ∀ q, q ≠ a → q ≠ b → h' q = h q) := by
  refine Sp.intro (lv := [_]) (by decide) rfl (Nat.le_of_ble_eq_true rfl) ?_
  refine wp_aload_n (pc := 0) dJx4a65c_grow_d5877_0 rfl rfl ?_
  refine wp_aload_n (pc := 1) dJx4a65c_grow_d5877_1 rfl rfl ?_
  refine wp_get (pc := 2) dJx4a65c_grow_d5877_2 fl_Jx4a65c_48_0 ha rfl ?_
  refine wp_iconst (pc := 5) (v := 1) dJx4a65c_grow_d5877_5 (by decide) ?_
  refine wp_iadd (pc := 6) dJx4a65c_grow_d5877_6 ?_
  refine wc_VV (pc := 7) (μ2 := mJx4a65c_grow_92f84) (rc := 0) (rs := 0) [_] dJx4a65c_grow_d5877_7 rfl ha rfl cv_Jx4a65c_69_0 rfl ⟨(Nat.le_of_ble_eq_true rfl), (Nat.le_of_ble_eq_true rfl)⟩ (Nat.le_of_ble_eq_true rfl) (j_grow1 l G h ha hd0 hc0 hn hn4 hel) (fun r h q => ?_)
  obtain ⟨b, N, rfl, q1, q2, q3, q4, q5, q6⟩ := q
  exact wp_aret (r := some b) (pc := 10) dJx4a65c_grow_d5877_10 rfl (Or.inr ⟨_, rfl⟩) ⟨_, rfl, b, N, rfl, q1, q2, q3, q4, q5, q6⟩
theorem j_add3 {a d n cap : Nat} {mc : Int32} {el : Nat → Nat} {e ce : Nat} {fe : List Value} (h : Hp) (ha : h a = some (oB 0 [.int mc, .ref d, .int (nI n)])) (hd0 : h d = some (aR 3 cap (lstF n el))) (hc0 : cap = 0 → d = gE G) (hn : n ≤ cap) (hn4 : n < 400) (hc6 : cap ≤ 600) (he : h e = some (oB ce fe)) (hce : canSt 3 ce) (hel : ∀ i, i < n → isO h (el i)) : SpN l G mJx4a65c_add_72be8 [.ref a, .ref e, .ref d, .int (nI n)] h (fun h' => ∃ b N, ((b = d ∧ N = cap ∧ n < cap) ∨ (h b = none ∧ n < N ∧ N ≤ 600)) ∧ h' b = some (aR 3 N (lstF (n + 1) (fu el n e))) ∧ h' a = some (oB 0 [.int mc, .ref b, .int (nI (n + 1))]) ∧ ∀ q, q ≠ a → q ≠ b → h' q = h q) := by
  refine Sp.intro (lv := [_, _, _, _]) (by decide) rfl (Nat.le_of_ble_eq_true rfl) ?_
  have hne : d ≠ a := fun z => by rw [z, ha] at hd0; cases hd0
  have hed : e ≠ d := fun z => by rw [z, hd0] at he; cases he
  refine wp_iload_n (pc := 0) dJx4a65c_add_72be8_0 rfl rfl ?_
  refine wp_aload_n (pc := 1) dJx4a65c_add_72be8_1 rfl rfl ?_
  refine wp_alen (k := 3) (pc := 2) (by decide) dJx4a65c_add_72be8_2 hd0 ?_
  refine wp_icmp_ne (pc := 3) (tgt := 11) dJx4a65c_add_72be8_3 (by decide) (fun c3 => ?_) (fun c3 => ?_)
  · have c3 : ¬ n = cap := fun z => c3 (by rw [z])
    refine wp_aload_n (pc := 11) dJx4a65c_add_72be8_11 rfl rfl ?_
    refine wp_iload_n (pc := 12) dJx4a65c_add_72be8_12 rfl rfl ?_
    refine wp_aload_n (pc := 13) dJx4a65c_add_72be8_13 rfl rfl ?_
    refine wp_aast (pc := 14) (i := n) (Or.inl rfl) dJx4a65c_add_72be8_14 hd0 ⟨rfl, by omega, by omega⟩ he hce ?_
    rw [lstF_add]
    refine wp_aload_n (pc := 15) dJx4a65c_add_72be8_15 rfl rfl ?_
    refine wp_iload_n (pc := 16) dJx4a65c_add_72be8_16 rfl rfl ?_
    refine wp_iconst (pc := 17) (v := 1) dJx4a65c_add_72be8_17 (by decide) ?_
    refine wp_iadd (pc := 18) dJx4a65c_add_72be8_18 ?_
    first | (refine wp_put (pc := 19) dJx4a65c_add_72be8_19 fl_Jx4a65c_48_0 (by rw [up_n _ (Ne.symm hne)]; exact ha) (Or.inl rfl) (Nat.le_of_ble_eq_true rfl) rfl rfl ?_) | (refine wp_put (pc := 19) dJx4a65c_add_72be8_19 fl_Jx4a65c_48_0 (by rw [up_n _ (Ne.symm hab)]; exact q5) (Or.inl rfl) (Nat.le_of_ble_eq_true rfl) rfl rfl ?_)
    first | exact wp_vret (pc := 22) dJx4a65c_add_72be8_22 rfl ⟨rfl, d, cap, Or.inl ⟨rfl, rfl, by omega⟩, by rw [up_n _ hne, up_s], by rw [up_s]; simp [nI_1], fun q h1 h2 => by rw [up_n _ h1, up_n _ h2]⟩ | exact wp_vret (pc := 22) dJx4a65c_add_72be8_22 rfl ⟨rfl, b, N, Or.inr ⟨q1, q2, q3⟩, by rw [up_n _ hab, up_s], by rw [up_s]; simp [nI_1], fun q h1 h2 => by rw [up_n _ h1, up_n _ h2]; exact q6 q h1 h2⟩
  · have c3 : n = cap := (nI_eq (by omega) (by omega)).mp c3
    refine wp_aload_n (pc := 6) dJx4a65c_add_72be8_6 rfl rfl ?_
    refine wc_VV (pc := 7) (μ2 := mJx4a65c_grow_d5877) (rc := 0) (rs := 0) [] dJx4a65c_add_72be8_7 rfl ha rfl cv_Jx4a65c_129_0 rfl ⟨(Nat.le_of_ble_eq_true rfl), (Nat.le_of_ble_eq_true rfl)⟩ (Nat.le_of_ble_eq_true rfl) (j_grow l G h ha hd0 hc0 c3 hn4 hel) (fun r h q => ?_)
    obtain ⟨b, N, rfl, q1, q2, q3, q4, q5, q6⟩ := q
    have hab : b ≠ a := fun z => by rw [z, ha] at q1; cases q1
    have heb : e ≠ b := fun z => by rw [z, q1] at he; cases he
    have hea : e ≠ a ∨ e = a := (Decidable.em (e = a)).symm
    have he2 : ∃ f2, h e = some (oB ce f2) := by
      rcases hea with z | z
      · exact ⟨fe, by rw [q6 e z heb]; exact he⟩
      · subst z; rw [ha] at he; cases he; exact ⟨_, q5⟩
    obtain ⟨f2, he2⟩ := he2
    refine wp_astore_n (pc := 10) (lv' := [_, _, _, _]) dJx4a65c_add_72be8_10 rfl (Nat.le_of_ble_eq_true rfl) rfl rfl ?_
    refine wp_aload_n (pc := 11) dJx4a65c_add_72be8_11 rfl rfl ?_
    refine wp_iload_n (pc := 12) dJx4a65c_add_72be8_12 rfl rfl ?_
    refine wp_aload_n (pc := 13) dJx4a65c_add_72be8_13 rfl rfl ?_
    refine wp_aast (pc := 14) (i := n) (Or.inl rfl) dJx4a65c_add_72be8_14 q4 ⟨rfl, by omega, by omega⟩ he2 hce ?_
    rw [lstF_add]
    refine wp_aload_n (pc := 15) dJx4a65c_add_72be8_15 rfl rfl ?_
    refine wp_iload_n (pc := 16) dJx4a65c_add_72be8_16 rfl rfl ?_
    refine wp_iconst (pc := 17) (v := 1) dJx4a65c_add_72be8_17 (by decide) ?_
    refine wp_iadd (pc := 18) dJx4a65c_add_72be8_18 ?_
    first | (refine wp_put (pc := 19) dJx4a65c_add_72be8_19 fl_Jx4a65c_48_0 (by rw [up_n _ (Ne.symm hne)]; exact ha) (Or.inl rfl) (Nat.le_of_ble_eq_true rfl) rfl rfl ?_) | (refine wp_put (pc := 19) dJx4a65c_add_72be8_19 fl_Jx4a65c_48_0 (by rw [up_n _ (Ne.symm hab)]; exact q5) (Or.inl rfl) (Nat.le_of_ble_eq_true rfl) rfl rfl ?_)
    first | exact wp_vret (pc := 22) dJx4a65c_add_72be8_22 rfl ⟨rfl, d, cap, Or.inl ⟨rfl, rfl, by omega⟩, by rw [up_n _ hne, up_s], by rw [up_s]; simp [nI_1], fun q h1 h2 => by rw [up_n _ h1, up_n _ h2]⟩ | exact wp_vret (pc := 22) dJx4a65c_add_72be8_22 rfl ⟨rfl, b, N, Or.inr ⟨q1, q2, q3⟩, by rw [up_n _ hab, up_s], by rw [up_s]; simp [nI_1], fun q h1 h2 => by rw [up_n _ h1, up_n _ h2]; exact q6 q h1 h2⟩
end JL
