/-! ===== the reference: grants and queues ===== -/
theorem find_range {p : Nat → Bool} {g i : Nat} (hi : i < g) (hn : ∀ q, q < i → p q = false) (hp : p i = true) : (List.range g).find? p = some i := by
  rw [List.find?_range_eq_some]
  exact ⟨hp, by simpa using hi, fun q hq => by simp [hn q hq]⟩
theorem find_rangeN {p : Nat → Bool} {g : Nat} (hn : ∀ q, q < g → p q = false) : (List.range g).find? p = none := by
  rw [List.find?_eq_none]
  intro q hq
  simp [hn q (List.mem_range.mp hq)]
/-- a place found, or -1 -/
def plc (o : Option Nat) : Int32 := match o with
  | some i => nI i
  | none => -1
def gof (M : MS) (t : Nat) (w : Int32) (g : Nat) : Option Nat := (List.range g).find? (fun i => decide (M.2.1 22 (20 * t + i) = w))
def qat (M : MS) (t : Nat) (w : Int32) (g : Nat) : Option Nat := (List.range g).find? (fun i => decide (M.2.1 17 (8 * t + i) = w))
/-- one step of a row's shift -/
def g1M (M : MS) (a : Nat) : MS :=
  let A := sI M 22 a (M.2.1 22 (a + 1))
  let B := sI A 23 a (A.2.1 23 (a + 1))
  let C := sI B 24 a (B.2.1 24 (a + 1))
  let D := sL C 25 a (C.2.2 25 (a + 1))
  sL D 26 a (D.2.2 26 (a + 1))
def goM (M : MS) (t at0 : Nat) : Nat → MS
  | 0 => sI M 21 t (M.2.1 21 t - 1)
  | n + 1 => g1M (goM M t at0 n) (20 * t + (at0 + n))
def uqM (M : MS) (t at0 : Nat) : Nat → MS
  | 0 => sI M 16 t (M.2.1 16 t - 1)
  | n + 1 => sI (uqM M t at0 n) 17 (8 * t + (at0 + n)) ((uqM M t at0 n).2.1 17 (8 * t + (at0 + n) + 1))
theorem goM_cnt (M : MS) (t at0 : Nat) : ∀ n, (goM M t at0 n).1 = M.1 ∧ ∀ k, k ≠ 21 → k ≠ 22 → k ≠ 23 → k ≠ 24 → (goM M t at0 n).2.1 k = M.2.1 k
  | 0 => ⟨rfl, fun k h _ _ _ => by simp [goM, sI, fu, h]⟩
  | n + 1 => by
    obtain ⟨h1, h2⟩ := goM_cnt M t at0 n
    refine ⟨h1, fun k a b c d => ?_⟩
    rw [← h2 k a b c d]
    simp [goM, g1M, sI, sL, fu, b, c, d]
theorem goM_21 (M : MS) (t at0 : Nat) : ∀ n, (goM M t at0 n).2.1 21 = fu (M.2.1 21) t (M.2.1 21 t - 1)
  | 0 => rfl
  | n + 1 => goM_21 M t at0 n
theorem uqM_cnt (M : MS) (t at0 : Nat) : ∀ n, (uqM M t at0 n).1 = M.1 ∧ (uqM M t at0 n).2.2 = M.2.2 ∧ ∀ k, k ≠ 16 → k ≠ 17 → (uqM M t at0 n).2.1 k = M.2.1 k
  | 0 => ⟨rfl, rfl, fun k h _ => by simp [uqM, sI, fu, h]⟩
  | n + 1 => by
    obtain ⟨h1, h2, h3⟩ := uqM_cnt M t at0 n
    refine ⟨h1, h2, fun k a b => ?_⟩
    rw [← h3 k a b]
    simp [uqM, sI, fu, b]
theorem uqM_16 (M : MS) (t at0 : Nat) : ∀ n, (uqM M t at0 n).2.1 16 = fu (M.2.1 16) t (M.2.1 16 t - 1)
  | 0 => rfl
  | n + 1 => uqM_16 M t at0 n
section M4
variable (l : Launch) (G : WG) (x : Nat) (am : Nat → Nat) (M : MS)
theorem ms_grantOf (t g : Nat) (w : Int32) (ht : t < 20) (hg : M.2.1 21 t = nI g) (hg2 : g ≤ 20) : MSp l G x am mX12_grantOf [.int (nI t), .int w] M (some (.int (plc (gof M t w g)))) (M) := by
  refine MSp.intro (lv := [_, _, _, _]) (by decide) rfl (Nat.le_of_ble_eq_true rfl) (fun h0 h hM hF => ?_)
  generalize hQ0 : (fun (w9 : Option Value) (h' : Hp) => w9 = (some (.int (plc (gof M t w g)))) ∧ InM x am (M) h' ∧ Fr x am h0 h') = Q0
  have loop : ∀ i, i ≤ g → (∀ q, q < i → ¬ M.2.1 22 (20 * t + q) = w) → ∀ h, InM x am M h → Fr x am h0 h → wp l G mX12_grantOf (zM G mX12_grantOf Q0) 2 [some (.ref x), some (.int (nI t)), some (.int w), some (.int (nI i))] [] h 0 0 := by
    refine loopU _ g (fun i hi ih => ?_) ?_
    · intro hq h hM hF
      refine wp_iload_n (pc := 2) dX12_grantOf_2 rfl rfl ?_
      refine wp_aload_n (pc := 3) dX12_grantOf_3 rfl rfl ?_
      refine wp_get (pc := 4) dX12_grantOf_4 fl_X12_60_13 hM.1 rfl ?_
      refine wp_iload_n (pc := 7) dX12_grantOf_7 rfl rfl ?_
      refine wp_iald (pc := 8) (i := t) dX12_grantOf_8 (hM.i 21 rfl) ⟨rfl, by omega, by decide⟩ ?_
      refine wp_icmp_ge (pc := 9) (tgt := 35) dX12_grantOf_9 (by decide) (fun z => absurd z (by rw [hg]; exact nI_ge hi (by omega))) (fun _ => ?_)
      refine wp_aload_n (pc := 12) dX12_grantOf_12 rfl rfl ?_
      refine wp_get (pc := 13) dX12_grantOf_13 fl_X12_63_13 hM.1 rfl ?_
      refine wp_bipush (pc := 16) (v := 20) dX12_grantOf_16 (by decide) ?_
      refine wp_iload_n (pc := 18) dX12_grantOf_18 rfl rfl ?_
      refine wp_imul (pc := 19) dX12_grantOf_19 ?_
      refine wp_iload_n (pc := 20) dX12_grantOf_20 rfl rfl ?_
      refine wp_iadd (pc := 21) dX12_grantOf_21 ?_
      refine wp_iald (pc := 22) (i := ((20 * t) + i)) dX12_grantOf_22 (hM.i 22 rfl) ⟨by simp only [nl1, nl5, nl8, nl20, pk_mul, nI_add], by omega, by decide⟩ ?_
      refine wp_iload_n (pc := 23) dX12_grantOf_23 rfl rfl ?_
      refine wp_icmp_ne (pc := 24) (tgt := 29) dX12_grantOf_24 (by decide) (fun c24 => ?_) (fun c24 => ?_)
      · skip
        refine wp_iinc (pc := 29) (v := _ + 1) (lv' := [_, _, _, _]) dX12_grantOf_29 rfl rfl rfl rfl ?_
        refine wp_goto (pc := 32) (tgt := 2) dX12_grantOf_32 (by decide) ?_
        exact wp_lv (ih (fun q hq2 => (Nat.lt_succ_iff_lt_or_eq.mp hq2).elim (hq q) (fun e => e ▸ c24)) h hM hF) (by simp [nI_1])
      · skip
        refine wp_iload_n (pc := 27) dX12_grantOf_27 rfl rfl ?_
        exact wp_iret (pc := 28) dX12_grantOf_28 rfl (by rw [← hQ0]; exact ⟨by unfold gof; rw [find_range hi (fun q h9 => decide_eq_false (hq q h9)) (decide_eq_true c24)]; rfl, hM, hF⟩)
    · intro hq h hM hF
      refine wp_iload_n (pc := 2) dX12_grantOf_2 rfl rfl ?_
      refine wp_aload_n (pc := 3) dX12_grantOf_3 rfl rfl ?_
      refine wp_get (pc := 4) dX12_grantOf_4 fl_X12_60_13 hM.1 rfl ?_
      refine wp_iload_n (pc := 7) dX12_grantOf_7 rfl rfl ?_
      refine wp_iald (pc := 8) (i := t) dX12_grantOf_8 (hM.i 21 rfl) ⟨rfl, by omega, by decide⟩ ?_
      refine wp_icmp_ge (pc := 9) (tgt := 35) dX12_grantOf_9 (by decide) (fun _ => ?_) (fun z => absurd (by rw [hg]; exact nI_le (Nat.le_refl _) (by omega)) z)
      refine wp_iconst (pc := 35) (v := (-1)) dX12_grantOf_35 (by decide) ?_
      exact wp_iret (pc := 36) dX12_grantOf_36 rfl (by rw [← hQ0]; exact ⟨by unfold gof; rw [find_rangeN (fun q h9 => decide_eq_false (hq q h9))]; rfl, hM, hF⟩)
  refine wp_iconst (pc := 0) (v := 0) dX12_grantOf_0 (by decide) ?_
  refine wp_istore_n (pc := 1) (lv' := [_, _, _, _]) dX12_grantOf_1 rfl (Nat.le_of_ble_eq_true rfl) rfl rfl ?_
  exact loop 0 (Nat.zero_le _) (fun q h => absurd h (Nat.not_lt_zero q)) h hM hF
theorem ms_queuedAt (t g : Nat) (w : Int32) (ht : t < 20) (hg : M.2.1 16 t = nI g) (hg2 : g ≤ 8) : MSp l G x am mX12_queuedAt [.int (nI t), .int w] M (some (.int (plc (qat M t w g)))) (M) := by
  refine MSp.intro (lv := [_, _, _, _]) (by decide) rfl (Nat.le_of_ble_eq_true rfl) (fun h0 h hM hF => ?_)
  generalize hQ0 : (fun (w9 : Option Value) (h' : Hp) => w9 = (some (.int (plc (qat M t w g)))) ∧ InM x am (M) h' ∧ Fr x am h0 h') = Q0
  have loop : ∀ i, i ≤ g → (∀ q, q < i → ¬ M.2.1 17 (8 * t + q) = w) → ∀ h, InM x am M h → Fr x am h0 h → wp l G mX12_queuedAt (zM G mX12_queuedAt Q0) 2 [some (.ref x), some (.int (nI t)), some (.int w), some (.int (nI i))] [] h 0 0 := by
    refine loopU _ g (fun i hi ih => ?_) ?_
    · intro hq h hM hF
      refine wp_iload_n (pc := 2) dX12_queuedAt_2 rfl rfl ?_
      refine wp_aload_n (pc := 3) dX12_queuedAt_3 rfl rfl ?_
      refine wp_get (pc := 4) dX12_queuedAt_4 fl_X12_44_13 hM.1 rfl ?_
      refine wp_iload_n (pc := 7) dX12_queuedAt_7 rfl rfl ?_
      refine wp_iald (pc := 8) (i := t) dX12_queuedAt_8 (hM.i 16 rfl) ⟨rfl, by omega, by decide⟩ ?_
      refine wp_icmp_ge (pc := 9) (tgt := 35) dX12_queuedAt_9 (by decide) (fun z => absurd z (by rw [hg]; exact nI_ge hi (by omega))) (fun _ => ?_)
      refine wp_aload_n (pc := 12) dX12_queuedAt_12 rfl rfl ?_
      refine wp_get (pc := 13) dX12_queuedAt_13 fl_X12_47_13 hM.1 rfl ?_
      refine wp_bipush (pc := 16) (v := 8) dX12_queuedAt_16 (by decide) ?_
      refine wp_iload_n (pc := 18) dX12_queuedAt_18 rfl rfl ?_
      refine wp_imul (pc := 19) dX12_queuedAt_19 ?_
      refine wp_iload_n (pc := 20) dX12_queuedAt_20 rfl rfl ?_
      refine wp_iadd (pc := 21) dX12_queuedAt_21 ?_
      refine wp_iald (pc := 22) (i := ((8 * t) + i)) dX12_queuedAt_22 (hM.i 17 rfl) ⟨by simp only [nl1, nl5, nl8, nl20, pk_mul, nI_add], by omega, by decide⟩ ?_
      refine wp_iload_n (pc := 23) dX12_queuedAt_23 rfl rfl ?_
      refine wp_icmp_ne (pc := 24) (tgt := 29) dX12_queuedAt_24 (by decide) (fun c24 => ?_) (fun c24 => ?_)
      · skip
        refine wp_iinc (pc := 29) (v := _ + 1) (lv' := [_, _, _, _]) dX12_queuedAt_29 rfl rfl rfl rfl ?_
        refine wp_goto (pc := 32) (tgt := 2) dX12_queuedAt_32 (by decide) ?_
        exact wp_lv (ih (fun q hq2 => (Nat.lt_succ_iff_lt_or_eq.mp hq2).elim (hq q) (fun e => e ▸ c24)) h hM hF) (by simp [nI_1])
      · skip
        refine wp_iload_n (pc := 27) dX12_queuedAt_27 rfl rfl ?_
        exact wp_iret (pc := 28) dX12_queuedAt_28 rfl (by rw [← hQ0]; exact ⟨by unfold qat; rw [find_range hi (fun q h9 => decide_eq_false (hq q h9)) (decide_eq_true c24)]; rfl, hM, hF⟩)
    · intro hq h hM hF
      refine wp_iload_n (pc := 2) dX12_queuedAt_2 rfl rfl ?_
      refine wp_aload_n (pc := 3) dX12_queuedAt_3 rfl rfl ?_
      refine wp_get (pc := 4) dX12_queuedAt_4 fl_X12_44_13 hM.1 rfl ?_
      refine wp_iload_n (pc := 7) dX12_queuedAt_7 rfl rfl ?_
      refine wp_iald (pc := 8) (i := t) dX12_queuedAt_8 (hM.i 16 rfl) ⟨rfl, by omega, by decide⟩ ?_
      refine wp_icmp_ge (pc := 9) (tgt := 35) dX12_queuedAt_9 (by decide) (fun _ => ?_) (fun z => absurd (by rw [hg]; exact nI_le (Nat.le_refl _) (by omega)) z)
      refine wp_iconst (pc := 35) (v := (-1)) dX12_queuedAt_35 (by decide) ?_
      exact wp_iret (pc := 36) dX12_queuedAt_36 rfl (by rw [← hQ0]; exact ⟨by unfold qat; rw [find_rangeN (fun q h9 => decide_eq_false (hq q h9))]; rfl, hM, hF⟩)
  refine wp_iconst (pc := 0) (v := 0) dX12_queuedAt_0 (by decide) ?_
  refine wp_istore_n (pc := 1) (lv' := [_, _, _, _]) dX12_queuedAt_1 rfl (Nat.le_of_ble_eq_true rfl) rfl rfl ?_
  exact loop 0 (Nat.zero_le _) (fun q h => absurd h (Nat.not_lt_zero q)) h hM hF
theorem subE {g : Nat} (h : 0 < g) : nI g - 1 = nI (g - 1) := by obtain ⟨n, rfl⟩ : ∃ n, g = n + 1 := ⟨g - 1, by omega⟩; exact nI_pred n
theorem ms_goes (t a g : Nat) (ht : t < 20) (hg : M.2.1 21 t = nI g) (hg2 : g ≤ 20) (ha : a < g) : MSp l G x am mX12_goes [.int (nI t), .int (nI a)] M none (goM M t a (g - 1 - a)) := by
  refine MSp.intro (lv := [_, _, _, _, _]) (by decide) rfl (Nat.le_of_ble_eq_true rfl) (fun h0 h hM hF => ?_)
  generalize hQ0 : (fun (w9 : Option Value) (h' : Hp) => w9 = none ∧ InM x am (goM M t a (g - 1 - a)) h' ∧ Fr x am h0 h') = Q0
  have loop : ∀ n, n ≤ g - 1 - a → ∀ (d4 : Option Value) (h : Hp), InM x am (goM M t a n) h → Fr x am h0 h → wp l G mX12_goes (zM G mX12_goes Q0) 12 [some (.ref x), some (.int (nI t)), some (.int (nI a)), some (.int (nI (a + n))), d4] [] h 0 0 := by
    have hc : ∀ n, (goM M t a n).2.1 21 t = nI (g - 1) := fun n => by rw [goM_21, fu_s, hg, subE (by omega)]
    refine loopU _ (g - 1 - a) (fun n hn ih => ?_) ?_
    · intro d4 h hM hF
      have hcn := hc n
      refine wp_iload_n (pc := 12) dX12_goes_12 rfl rfl ?_
      refine wp_aload_n (pc := 13) dX12_goes_13 rfl rfl ?_
      refine wp_get (pc := 14) dX12_goes_14 fl_X12_60_13 hM.1 rfl ?_
      refine wp_iload_n (pc := 17) dX12_goes_17 rfl rfl ?_
      refine wp_iald (pc := 18) (i := t) dX12_goes_18 (hM.i 21 rfl) ⟨rfl, by omega, by decide⟩ ?_
      rw [hcn]
      refine wp_icmp_ge (pc := 19) (tgt := 116) dX12_goes_19 (by decide) (fun z => absurd z (nI_ge (by omega) (by omega))) (fun _ => ?_)
      refine wp_bipush (pc := 22) (v := 20) dX12_goes_22 (by decide) ?_
      refine wp_iload_n (pc := 24) dX12_goes_24 rfl rfl ?_
      refine wp_imul (pc := 25) dX12_goes_25 ?_
      refine wp_iload_n (pc := 26) dX12_goes_26 rfl rfl ?_
      refine wp_iadd (pc := 27) dX12_goes_27 ?_
      refine wp_istore (pc := 28) (lv' := [_, _, _, _, _]) dX12_goes_28 (Nat.le_of_ble_eq_true rfl) rfl rfl ?_
      refine wp_aload_n (pc := 30) dX12_goes_30 rfl rfl ?_
      refine wp_get (pc := 31) dX12_goes_31 fl_X12_63_13 hM.1 rfl ?_
      refine wp_iload (pc := 34) dX12_goes_34 rfl ?_
      refine wp_aload_n (pc := 36) dX12_goes_36 rfl rfl ?_
      refine wp_get (pc := 37) dX12_goes_37 fl_X12_63_13 hM.1 rfl ?_
      refine wp_iload (pc := 40) dX12_goes_40 rfl ?_
      refine wp_iconst (pc := 42) (v := 1) dX12_goes_42 (by decide) ?_
      refine wp_iadd (pc := 43) dX12_goes_43 ?_
      refine wp_iald (pc := 44) (i := (((20 * t) + (a + n)) + 1)) dX12_goes_44 (hM.i 22 rfl) ⟨by simp only [nl1, nl5, nl8, nl20, pk_mul, nI_add], by omega, by decide⟩ ?_
      refine mp_iast (pc := 45) (k := 22) (i := ((20 * t) + (a + n))) dX12_goes_45 hM hF rfl ⟨by simp only [nl1, nl5, nl8, nl20, pk_mul, nI_add], by omega, by decide⟩ (fun h hM hF => ?_)
      refine wp_aload_n (pc := 46) dX12_goes_46 rfl rfl ?_
      refine wp_get (pc := 47) dX12_goes_47 fl_X12_66_13 hM.1 rfl ?_
      refine wp_iload (pc := 50) dX12_goes_50 rfl ?_
      refine wp_aload_n (pc := 52) dX12_goes_52 rfl rfl ?_
      refine wp_get (pc := 53) dX12_goes_53 fl_X12_66_13 hM.1 rfl ?_
      refine wp_iload (pc := 56) dX12_goes_56 rfl ?_
      refine wp_iconst (pc := 58) (v := 1) dX12_goes_58 (by decide) ?_
      refine wp_iadd (pc := 59) dX12_goes_59 ?_
      refine wp_iald (pc := 60) (i := (((20 * t) + (a + n)) + 1)) dX12_goes_60 (hM.i 23 rfl) ⟨by simp only [nl1, nl5, nl8, nl20, pk_mul, nI_add], by omega, by decide⟩ ?_
      refine mp_iast (pc := 61) (k := 23) (i := ((20 * t) + (a + n))) dX12_goes_61 hM hF rfl ⟨by simp only [nl1, nl5, nl8, nl20, pk_mul, nI_add], by omega, by decide⟩ (fun h hM hF => ?_)
      refine wp_aload_n (pc := 62) dX12_goes_62 rfl rfl ?_
      refine wp_get (pc := 63) dX12_goes_63 fl_X12_69_13 hM.1 rfl ?_
      refine wp_iload (pc := 66) dX12_goes_66 rfl ?_
      refine wp_aload_n (pc := 68) dX12_goes_68 rfl rfl ?_
      refine wp_get (pc := 69) dX12_goes_69 fl_X12_69_13 hM.1 rfl ?_
      refine wp_iload (pc := 72) dX12_goes_72 rfl ?_
      refine wp_iconst (pc := 74) (v := 1) dX12_goes_74 (by decide) ?_
      refine wp_iadd (pc := 75) dX12_goes_75 ?_
      refine wp_iald (pc := 76) (i := (((20 * t) + (a + n)) + 1)) dX12_goes_76 (hM.i 24 rfl) ⟨by simp only [nl1, nl5, nl8, nl20, pk_mul, nI_add], by omega, by decide⟩ ?_
      refine mp_iast (pc := 77) (k := 24) (i := ((20 * t) + (a + n))) dX12_goes_77 hM hF rfl ⟨by simp only [nl1, nl5, nl8, nl20, pk_mul, nI_add], by omega, by decide⟩ (fun h hM hF => ?_)
      refine wp_aload_n (pc := 78) dX12_goes_78 rfl rfl ?_
      refine wp_get (pc := 79) dX12_goes_79 fl_X12_72_13 hM.1 rfl ?_
      refine wp_iload (pc := 82) dX12_goes_82 rfl ?_
      refine wp_aload_n (pc := 84) dX12_goes_84 rfl rfl ?_
      refine wp_get (pc := 85) dX12_goes_85 fl_X12_72_13 hM.1 rfl ?_
      refine wp_iload (pc := 88) dX12_goes_88 rfl ?_
      refine wp_iconst (pc := 90) (v := 1) dX12_goes_90 (by decide) ?_
      refine wp_iadd (pc := 91) dX12_goes_91 ?_
      refine wp_lald (pc := 92) (i := (((20 * t) + (a + n)) + 1)) dX12_goes_92 (hM.j 25 rfl) ⟨by simp only [nl1, nl5, nl8, nl20, pk_mul, nI_add], by omega, by decide⟩ ?_
      refine mp_last (pc := 93) (k := 25) (i := ((20 * t) + (a + n))) dX12_goes_93 hM hF rfl ⟨by simp only [nl1, nl5, nl8, nl20, pk_mul, nI_add], by omega, by decide⟩ (fun h hM hF => ?_)
      refine wp_aload_n (pc := 94) dX12_goes_94 rfl rfl ?_
      refine wp_get (pc := 95) dX12_goes_95 fl_X12_75_13 hM.1 rfl ?_
      refine wp_iload (pc := 98) dX12_goes_98 rfl ?_
      refine wp_aload_n (pc := 100) dX12_goes_100 rfl rfl ?_
      refine wp_get (pc := 101) dX12_goes_101 fl_X12_75_13 hM.1 rfl ?_
      refine wp_iload (pc := 104) dX12_goes_104 rfl ?_
      refine wp_iconst (pc := 106) (v := 1) dX12_goes_106 (by decide) ?_
      refine wp_iadd (pc := 107) dX12_goes_107 ?_
      refine wp_lald (pc := 108) (i := (((20 * t) + (a + n)) + 1)) dX12_goes_108 (hM.j 26 rfl) ⟨by simp only [nl1, nl5, nl8, nl20, pk_mul, nI_add], by omega, by decide⟩ ?_
      refine mp_last (pc := 109) (k := 26) (i := ((20 * t) + (a + n))) dX12_goes_109 hM hF rfl ⟨by simp only [nl1, nl5, nl8, nl20, pk_mul, nI_add], by omega, by decide⟩ (fun h hM hF => ?_)
      refine wp_iinc (pc := 110) (v := _ + 1) (lv' := [_, _, _, _, _]) dX12_goes_110 rfl rfl rfl rfl ?_
      refine wp_goto (pc := 113) (tgt := 12) dX12_goes_113 (by decide) ?_
      exact wp_lv (ih (some (.int (20 * nI t + nI (a + n)))) h hM hF) (by simp [nI_1, Nat.add_assoc])
    · intro d4 h hM hF
      have hcn := hc (g - 1 - a)
      refine wp_iload_n (pc := 12) dX12_goes_12 rfl rfl ?_
      refine wp_aload_n (pc := 13) dX12_goes_13 rfl rfl ?_
      refine wp_get (pc := 14) dX12_goes_14 fl_X12_60_13 hM.1 rfl ?_
      refine wp_iload_n (pc := 17) dX12_goes_17 rfl rfl ?_
      refine wp_iald (pc := 18) (i := t) dX12_goes_18 (hM.i 21 rfl) ⟨rfl, by omega, by decide⟩ ?_
      rw [hcn]
      refine wp_icmp_ge (pc := 19) (tgt := 116) dX12_goes_19 (by decide) (fun _ => ?_) (fun z => absurd (nI_le (by omega) (by omega)) z)
      exact wp_vret (pc := 116) dX12_goes_116 rfl (by rw [← hQ0]; exact ⟨rfl, hM, hF⟩)
  refine wp_aload_n (pc := 0) dX12_goes_0 rfl rfl ?_
  refine wp_get (pc := 1) dX12_goes_1 fl_X12_60_13 hM.1 rfl ?_
  refine wp_iload_n (pc := 4) dX12_goes_4 rfl rfl ?_
  refine wp_dup2 (pc := 5) dX12_goes_5 rfl rfl ?_
  refine wp_iald (pc := 6) (i := t) dX12_goes_6 (hM.i 21 rfl) ⟨rfl, by omega, by decide⟩ ?_
  refine wp_iconst (pc := 7) (v := 1) dX12_goes_7 (by decide) ?_
  refine wp_isub (pc := 8) dX12_goes_8 ?_
  refine mp_iast (pc := 9) (k := 21) (i := t) dX12_goes_9 hM hF rfl ⟨rfl, by omega, by decide⟩ (fun h hM hF => ?_)
  refine wp_iload_n (pc := 10) dX12_goes_10 rfl rfl ?_
  refine wp_istore_n (pc := 11) (lv' := [_, _, _, _, _]) dX12_goes_11 rfl (Nat.le_of_ble_eq_true rfl) rfl rfl ?_
  exact loop 0 (Nat.zero_le _) _ h hM hF
def unqM (M : MS) (t a q : Nat) : MS := if a = 0 then sI (uqM M t a (q - 1 - a)) 20 t 0 else uqM M t a (q - 1 - a)
theorem ms_unqueue (t a g : Nat) (ht : t < 20) (hg : M.2.1 16 t = nI g) (hg2 : g ≤ 8) (ha : a < g) : MSp l G x am mX12_unqueue [.int (nI t), .int (nI a)] M none (unqM M t a g) := by
  refine MSp.intro (lv := [_, _, _, _]) (by decide) rfl (Nat.le_of_ble_eq_true rfl) (fun h0 h hM hF => ?_)
  generalize hQ0 : (fun (w9 : Option Value) (h' : Hp) => w9 = none ∧ InM x am (unqM M t a g) h' ∧ Fr x am h0 h') = Q0
  have loop : ∀ n, n ≤ g - 1 - a → ∀ (h : Hp), InM x am (uqM M t a n) h → Fr x am h0 h → wp l G mX12_unqueue (zM G mX12_unqueue Q0) 12 [some (.ref x), some (.int (nI t)), some (.int (nI a)), some (.int (nI (a + n)))] [] h 0 0 := by
    have hc : ∀ n, (uqM M t a n).2.1 16 t = nI (g - 1) := fun n => by rw [uqM_16, fu_s, hg, subE (by omega)]
    refine loopU _ (g - 1 - a) (fun n hn ih => ?_) ?_
    · intro h hM hF
      have hcn := hc n
      refine wp_iload_n (pc := 12) dX12_unqueue_12 rfl rfl ?_
      refine wp_aload_n (pc := 13) dX12_unqueue_13 rfl rfl ?_
      refine wp_get (pc := 14) dX12_unqueue_14 fl_X12_44_13 hM.1 rfl ?_
      refine wp_iload_n (pc := 17) dX12_unqueue_17 rfl rfl ?_
      refine wp_iald (pc := 18) (i := t) dX12_unqueue_18 (hM.i 16 rfl) ⟨rfl, by omega, by decide⟩ ?_
      rw [hcn]
      refine wp_icmp_ge (pc := 19) (tgt := 52) dX12_unqueue_19 (by decide) (fun z => absurd z (nI_ge (by omega) (by omega))) (fun _ => ?_)
      refine wp_aload_n (pc := 22) dX12_unqueue_22 rfl rfl ?_
      refine wp_get (pc := 23) dX12_unqueue_23 fl_X12_47_13 hM.1 rfl ?_
      refine wp_bipush (pc := 26) (v := 8) dX12_unqueue_26 (by decide) ?_
      refine wp_iload_n (pc := 28) dX12_unqueue_28 rfl rfl ?_
      refine wp_imul (pc := 29) dX12_unqueue_29 ?_
      refine wp_iload_n (pc := 30) dX12_unqueue_30 rfl rfl ?_
      refine wp_iadd (pc := 31) dX12_unqueue_31 ?_
      refine wp_aload_n (pc := 32) dX12_unqueue_32 rfl rfl ?_
      refine wp_get (pc := 33) dX12_unqueue_33 fl_X12_47_13 hM.1 rfl ?_
      refine wp_bipush (pc := 36) (v := 8) dX12_unqueue_36 (by decide) ?_
      refine wp_iload_n (pc := 38) dX12_unqueue_38 rfl rfl ?_
      refine wp_imul (pc := 39) dX12_unqueue_39 ?_
      refine wp_iload_n (pc := 40) dX12_unqueue_40 rfl rfl ?_
      refine wp_iadd (pc := 41) dX12_unqueue_41 ?_
      refine wp_iconst (pc := 42) (v := 1) dX12_unqueue_42 (by decide) ?_
      refine wp_iadd (pc := 43) dX12_unqueue_43 ?_
      refine wp_iald (pc := 44) (i := (((8 * t) + (a + n)) + 1)) dX12_unqueue_44 (hM.i 17 rfl) ⟨by simp only [nl1, nl5, nl8, nl20, pk_mul, nI_add], by omega, by decide⟩ ?_
      refine mp_iast (pc := 45) (k := 17) (i := ((8 * t) + (a + n))) dX12_unqueue_45 hM hF rfl ⟨by simp only [nl1, nl5, nl8, nl20, pk_mul, nI_add], by omega, by decide⟩ (fun h hM hF => ?_)
      refine wp_iinc (pc := 46) (v := _ + 1) (lv' := [_, _, _, _]) dX12_unqueue_46 rfl rfl rfl rfl ?_
      refine wp_goto (pc := 49) (tgt := 12) dX12_unqueue_49 (by decide) ?_
      exact wp_lv (ih h hM hF) (by simp [nI_1, Nat.add_assoc])
    · intro h hM hF
      have hcn := hc (g - 1 - a)
      refine wp_iload_n (pc := 12) dX12_unqueue_12 rfl rfl ?_
      refine wp_aload_n (pc := 13) dX12_unqueue_13 rfl rfl ?_
      refine wp_get (pc := 14) dX12_unqueue_14 fl_X12_44_13 hM.1 rfl ?_
      refine wp_iload_n (pc := 17) dX12_unqueue_17 rfl rfl ?_
      refine wp_iald (pc := 18) (i := t) dX12_unqueue_18 (hM.i 16 rfl) ⟨rfl, by omega, by decide⟩ ?_
      rw [hcn]
      refine wp_icmp_ge (pc := 19) (tgt := 52) dX12_unqueue_19 (by decide) (fun _ => ?_) (fun z => absurd (nI_le (by omega) (by omega)) z)
      refine wp_iload_n (pc := 52) dX12_unqueue_52 rfl rfl ?_
      refine wp_if_ne (pc := 53) (tgt := 63) dX12_unqueue_53 (by decide) (fun c53 => ?_) (fun c53 => ?_)
      · have c53 : ¬ a = 0 := fun e => c53 (by rw [e]; rfl)
        exact wp_vret (pc := 63) dX12_unqueue_63 rfl (by rw [← hQ0]; exact ⟨rfl, by simp only [unqM, eq_false c53, if_true, if_false, Bool.true_eq_false, Bool.false_eq_true, reduceIte, reduceCtorEq, Bool.not_true, Bool.not_false, true_and, and_true, and_false, false_and, or_true, true_or, or_false, false_or, not_true_eq_false, not_false_eq_true] <;> exact hM, hF⟩)
      · have c53 : a = 0 := (nI_eq (by omega) (by decide)).mp c53
        refine wp_aload_n (pc := 56) dX12_unqueue_56 rfl rfl ?_
        refine wp_get (pc := 57) dX12_unqueue_57 fl_X12_57_13 hM.1 rfl ?_
        refine wp_iload_n (pc := 60) dX12_unqueue_60 rfl rfl ?_
        refine wp_iconst (pc := 61) (v := 0) dX12_unqueue_61 (by decide) ?_
        refine mp_zast (pc := 62) (k := 20) (i := t) dX12_unqueue_62 hM hF rfl ⟨rfl, by omega, by decide⟩ (by decide) (fun h hM hF => ?_)
        exact wp_vret (pc := 63) dX12_unqueue_63 rfl (by rw [← hQ0]; exact ⟨rfl, by simp only [unqM, eq_true c53, if_true, if_false, Bool.true_eq_false, Bool.false_eq_true, reduceIte, reduceCtorEq, Bool.not_true, Bool.not_false, true_and, and_true, and_false, false_and, or_true, true_or, or_false, false_or, not_true_eq_false, not_false_eq_true] <;> exact hM, hF⟩)
  refine wp_aload_n (pc := 0) dX12_unqueue_0 rfl rfl ?_
  refine wp_get (pc := 1) dX12_unqueue_1 fl_X12_44_13 hM.1 rfl ?_
  refine wp_iload_n (pc := 4) dX12_unqueue_4 rfl rfl ?_
  refine wp_dup2 (pc := 5) dX12_unqueue_5 rfl rfl ?_
  refine wp_iald (pc := 6) (i := t) dX12_unqueue_6 (hM.i 16 rfl) ⟨rfl, by omega, by decide⟩ ?_
  refine wp_iconst (pc := 7) (v := 1) dX12_unqueue_7 (by decide) ?_
  refine wp_isub (pc := 8) dX12_unqueue_8 ?_
  refine mp_iast (pc := 9) (k := 16) (i := t) dX12_unqueue_9 hM hF rfl ⟨rfl, by omega, by decide⟩ (fun h hM hF => ?_)
  refine wp_iload_n (pc := 10) dX12_unqueue_10 rfl rfl ?_
  refine wp_istore_n (pc := 11) (lv' := [_, _, _, _]) dX12_unqueue_11 rfl (Nat.le_of_ble_eq_true rfl) rfl rfl ?_
  exact loop 0 (Nat.zero_le _) h hM hF
/-- what looks() does to the grants: n of them left to look at from place i on -/
def lkM (M : MS) (t : Nat) (c : Int64) (i : Nat) : Nat → MS
  | 0 => M
  | n + 1 => if c < M.2.2 26 (20 * t + i) then lkM M t c (i + 1) n else lkM (goM M t i n) t c i n
def lkR (M : MS) (t : Nat) : MS := if M.2.1 15 t = -1 then M else if plc (gof M t (M.2.1 15 t) (nx (M.2.1 21 t))) = -1 then sI M 15 t (-1) else M
def lkQ (M : MS) (t : Nat) (c : Int64) : MS := if M.2.1 20 t = 0 then M else if c < M.2.2 19 t then M else unqM M t 0 (nx (M.2.1 16 t))
def lkC (M : MS) (t : Nat) (c : Int64) : MS := if M.2.1 16 t ≤ 0 then M else if M.2.1 21 t = 0 then (if M.2.1 20 t = 0 then
  let A := sI M 20 t 1
  let B := sL A 19 t (c + (lng A t).toInt64)
  sndM B (nx (B.1 35)) 6 (B.2.1 17 (8 * t)) (B.1 27) (nI t) else M) else M
def looksM (M : MS) (t : Nat) : MS :=
  let c := kClk M (nx (M.1 27))
  lkC (lkQ (lkR (lkM M t c 0 (nx (M.2.1 21 t))) t) t c) t c
theorem goM_2 (M : MS) (t a : Nat) : ∀ n k, k ≠ 25 → k ≠ 26 → (goM M t a n).2.2 k = M.2.2 k
  | 0, k, _, _ => rfl
  | n + 1, k, h1, h2 => by rw [← goM_2 M t a n k h1 h2]; simp [goM, g1M, sI, sL, fu, h1, h2]
/-- all but the grants' rows are as they were -/
def sameG (A B : MS) : Prop := A.1 = B.1 ∧ (∀ k, k ≠ 21 → k ≠ 22 → k ≠ 23 → k ≠ 24 → A.2.1 k = B.2.1 k) ∧ ∀ k, k ≠ 25 → k ≠ 26 → A.2.2 k = B.2.2 k
theorem sameG.tr {A B C : MS} (h : sameG A B) (h' : sameG B C) : sameG A C := ⟨h.1.trans h'.1, fun k a b c d => (h.2.1 k a b c d).trans (h'.2.1 k a b c d), fun k a b => (h.2.2 k a b).trans (h'.2.2 k a b)⟩
theorem goM_same (M : MS) (t a n : Nat) : sameG (goM M t a n) M := ⟨(goM_cnt M t a n).1, (goM_cnt M t a n).2, goM_2 M t a n⟩
theorem lkM_same (t : Nat) (c : Int64) : ∀ (n i : Nat) (M : MS), sameG (lkM M t c i n) M
  | 0, i, M => ⟨rfl, fun _ _ _ _ _ => rfl, fun _ _ _ => rfl⟩
  | n + 1, i, M => by
    unfold lkM
    split
    · exact lkM_same t c n (i + 1) M
    · exact (lkM_same t c n i _).tr (goM_same M t i n)
theorem lkM_cnt (t : Nat) (c : Int64) : ∀ (n i : Nat) (M : MS), M.2.1 21 t = nI (i + n) → ∃ g, i ≤ g ∧ g ≤ i + n ∧ (lkM M t c i n).2.1 21 t = nI g
  | 0, i, M, h => ⟨i, Nat.le_refl _, Nat.le_refl _, h⟩
  | n + 1, i, M, h => by
    unfold lkM
    split
    · obtain ⟨g, h1, h2, h3⟩ := lkM_cnt t c n (i + 1) M (by rw [h]; congr 1; omega)
      exact ⟨g, by omega, by omega, h3⟩
    · obtain ⟨g, h1, h2, h3⟩ := lkM_cnt t c n i (goM M t i n) (by rw [goM_21, fu_s, h, subE (by omega)]; congr 1)
      exact ⟨g, by omega, by omega, h3⟩
theorem lkR_1 (M : MS) (t : Nat) : (lkR M t).1 = M.1 := by
  unfold lkR
  split
  · rfl
  · split <;> rfl
theorem lkR_2 (M : MS) (t : Nat) : ∀ k, k ≠ 15 → (lkR M t).2.1 k = M.2.1 k := by
  intro k h
  unfold lkR
  split
  · rfl
  · split
    · simp [sI, fu, h]
    · rfl
theorem lkR_3 (M : MS) (t : Nat) : (lkR M t).2.2 = M.2.2 := by
  unfold lkR
  split
  · rfl
  · split <;> rfl
theorem unqM_1 (M : MS) (t a q : Nat) : (unqM M t a q).1 = M.1 := by
  unfold unqM
  split
  · exact (uqM_cnt M t a _).1
  · exact (uqM_cnt M t a _).1
theorem lkQ_1 (M : MS) (t : Nat) (c : Int64) : (lkQ M t c).1 = M.1 := by
  unfold lkQ
  split
  · rfl
  · split
    · rfl
    · exact unqM_1 M t 0 _
theorem ms_looks (t g q k : Nat) (ht : t < 20) (hg : M.2.1 21 t = nI g) (hg2 : g ≤ 20) (hq : M.2.1 16 t = nI q) (hq2 : q ≤ 8) (hcq : ¬ M.2.1 20 t = 0 → 0 < q) (hk : M.1 27 = nI k) (hk5 : k < 5) {L : Nat} (hL : M.1 35 = nI L) (hL4 : L < 400) (hd0 : ¬ 1000 - M.1 0 = 0) : MSp l G x am mX12_looks [.int (nI t)] M none (looksM M t) := by
  refine MSp.intro (lv := [_, _, _, _, _]) (by decide) rfl (Nat.le_of_ble_eq_true rfl) (fun h0 h hM hF => ?_)
  generalize hQ0 : (fun (w9 : Option Value) (h' : Hp) => w9 = none ∧ InM x am (looksM M t) h' ∧ Fr x am h0 h') = Q0
  have hkx : nx (M.1 27) = k := by rw [hk]; exact nx_nI (by omega)
  have hgx : nx (M.2.1 21 t) = g := by rw [hg]; exact nx_nI (by omega)
  generalize hc : kClk M k = c
  have hres : looksM M t = lkC (lkQ (lkR (lkM M t c 0 g) t) t c) t c := by unfold looksM; simp only [hkx, hgx, hc]
  rw [hres] at hQ0
  have sm := lkM_same t c g 0 M
  obtain ⟨g', -, hg'2, hg'⟩ := lkM_cnt t c g 0 M (by rw [hg, Nat.zero_add])
  generalize hLM : lkM M t c 0 g = LM at sm hg' hQ0
  have hR1 : (lkR LM t).1 = M.1 := by rw [← sm.1]; exact lkR_1 LM t
  have hR2 : ∀ k, k ≠ 15 → (lkR LM t).2.1 k = LM.2.1 k := lkR_2 LM t
  have hR3 : (lkR LM t).2.2 = LM.2.2 := lkR_3 LM t
  generalize hM2 : lkR LM t = M2 at hR1 hR2 hR3 hQ0
  have h2q : M2.2.1 16 t = nI q := by rw [hR2 16 (by decide), sm.2.1 16 (by decide) (by decide) (by decide) (by decide)]; exact hq
  have h2c : M2.2.1 20 t = M.2.1 20 t := by rw [hR2 20 (by decide), sm.2.1 20 (by decide) (by decide) (by decide) (by decide)]
  have hQ1 : (lkQ M2 t c).1 = M2.1 := lkQ_1 M2 t c
  generalize hM3 : lkQ M2 t c = M3 at hQ1 hQ0
  have h31 : M3.1 = M.1 := hQ1.trans hR1
  have k114 : ∀ (d4 : Option Value) (h : Hp), InM x am M3 h → Fr x am h0 h → wp l G mX12_looks (zM G mX12_looks Q0) 114 [some (.ref x), some (.int (nI t)), some (.long c), none, d4] [] h 0 0 := by
    intro d4 h hM hF
    have hd3 : ¬ 1000 - M3.1 0 = 0 := by rw [h31]; exact hd0
    have hL3 : M3.1 35 = nI L := by rw [h31]; exact hL
    have hLx : nx (M3.1 35) = L := by rw [hL3]; exact nx_nI (by omega)
    refine wp_aload_n (pc := 114) dX12_looks_114 rfl rfl ?_
    refine wp_get (pc := 115) dX12_looks_115 fl_X12_44_13 hM.1 rfl ?_
    refine wp_iload_n (pc := 118) dX12_looks_118 rfl rfl ?_
    refine wp_iald (pc := 119) (i := t) dX12_looks_119 (hM.i 16 rfl) ⟨rfl, by omega, by decide⟩ ?_
    refine wp_if_le (pc := 120) (tgt := 183) dX12_looks_120 (by decide) (fun c120 => ?_) (fun c120 => ?_)
    · skip
      exact wp_vret (pc := 183) dX12_looks_183 rfl (by rw [← hQ0]; exact ⟨rfl, by simp only [lkC, eq_true c120, if_true, if_false, Bool.true_eq_false, Bool.false_eq_true, reduceIte, reduceCtorEq, Bool.not_true, Bool.not_false, true_and, and_true, and_false, false_and, or_true, true_or, or_false, false_or, not_true_eq_false, not_false_eq_true] <;> (first | exact hM | (have e : nx ((sL (sI M3 20 t 1) 19 t (c + (lng (sI M3 20 t 1) t).toInt64)).1 35) = L := hLx; rw [e]; exact hM)), hF⟩)
    · skip
      refine wp_aload_n (pc := 123) dX12_looks_123 rfl rfl ?_
      refine wp_get (pc := 124) dX12_looks_124 fl_X12_60_13 hM.1 rfl ?_
      refine wp_iload_n (pc := 127) dX12_looks_127 rfl rfl ?_
      refine wp_iald (pc := 128) (i := t) dX12_looks_128 (hM.i 21 rfl) ⟨rfl, by omega, by decide⟩ ?_
      refine wp_if_ne (pc := 129) (tgt := 183) dX12_looks_129 (by decide) (fun c129 => ?_) (fun c129 => ?_)
      · skip
        exact wp_vret (pc := 183) dX12_looks_183 rfl (by rw [← hQ0]; exact ⟨rfl, by simp only [lkC, eq_false c120, eq_false c129, if_true, if_false, Bool.true_eq_false, Bool.false_eq_true, reduceIte, reduceCtorEq, Bool.not_true, Bool.not_false, true_and, and_true, and_false, false_and, or_true, true_or, or_false, false_or, not_true_eq_false, not_false_eq_true] <;> (first | exact hM | (have e : nx ((sL (sI M3 20 t 1) 19 t (c + (lng (sI M3 20 t 1) t).toInt64)).1 35) = L := hLx; rw [e]; exact hM)), hF⟩)
      · skip
        refine wp_aload_n (pc := 132) dX12_looks_132 rfl rfl ?_
        refine wp_get (pc := 133) dX12_looks_133 fl_X12_57_13 hM.1 rfl ?_
        refine wp_iload_n (pc := 136) dX12_looks_136 rfl rfl ?_
        refine wp_zald (pc := 137) (i := t) dX12_looks_137 (hM.z 20 rfl) ⟨rfl, by omega, by decide⟩ ?_
        refine wp_if_ne (pc := 138) (tgt := 183) dX12_looks_138 (by decide) (fun c138 => ?_) (fun c138 => ?_)
        · skip
          exact wp_vret (pc := 183) dX12_looks_183 rfl (by rw [← hQ0]; exact ⟨rfl, by simp only [lkC, eq_false c120, eq_true c129, eq_false c138, if_true, if_false, Bool.true_eq_false, Bool.false_eq_true, reduceIte, reduceCtorEq, Bool.not_true, Bool.not_false, true_and, and_true, and_false, false_and, or_true, true_or, or_false, false_or, not_true_eq_false, not_false_eq_true] <;> (first | exact hM | (have e : nx ((sL (sI M3 20 t 1) 19 t (c + (lng (sI M3 20 t 1) t).toInt64)).1 35) = L := hLx; rw [e]; exact hM)), hF⟩)
        · skip
          refine wp_aload_n (pc := 141) dX12_looks_141 rfl rfl ?_
          refine wp_get (pc := 142) dX12_looks_142 fl_X12_57_13 hM.1 rfl ?_
          refine wp_iload_n (pc := 145) dX12_looks_145 rfl rfl ?_
          refine wp_iconst (pc := 146) (v := 1) dX12_looks_146 (by decide) ?_
          refine mp_zast (pc := 147) (k := 20) (i := t) dX12_looks_147 hM hF rfl ⟨rfl, by omega, by decide⟩ (by decide) (fun h hM hF => ?_)
          refine wp_aload_n (pc := 148) dX12_looks_148 rfl rfl ?_
          refine wp_get (pc := 149) dX12_looks_149 fl_X12_54_13 hM.1 rfl ?_
          refine wp_iload_n (pc := 152) dX12_looks_152 rfl rfl ?_
          refine wp_lload_n (pc := 153) dX12_looks_153 rfl rfl ?_
          refine wp_aload_n (pc := 154) dX12_looks_154 rfl rfl ?_
          refine wp_iload_n (pc := 155) dX12_looks_155 rfl rfl ?_
          refine mp_call (pc := 156) [_] dX12_looks_156 rfl cv_X12_210_13 rfl ⟨(Nat.le_of_ble_eq_true rfl), (Nat.le_of_ble_eq_true rfl)⟩ (Nat.le_of_ble_eq_true rfl) ⟨rfl, rfl⟩ (ms_long0 l G x am _ _ (by omega) (by exact hd3)) hM hF (fun h hM hF => ?_)
          refine wp_i2l (pc := 159) dX12_looks_159 ?_
          refine wp_ladd (pc := 160) dX12_looks_160 ?_
          refine mp_last (pc := 161) (k := 19) (i := t) dX12_looks_161 hM hF rfl ⟨rfl, by omega, by decide⟩ (fun h hM hF => ?_)
          refine wp_aload_n (pc := 162) dX12_looks_162 rfl rfl ?_
          refine wp_bipush (pc := 163) (v := 6) dX12_looks_163 (by decide) ?_
          refine wp_aload_n (pc := 165) dX12_looks_165 rfl rfl ?_
          refine wp_get (pc := 166) dX12_looks_166 fl_X12_47_13 hM.1 rfl ?_
          refine wp_bipush (pc := 169) (v := 8) dX12_looks_169 (by decide) ?_
          refine wp_iload_n (pc := 171) dX12_looks_171 rfl rfl ?_
          refine wp_imul (pc := 172) dX12_looks_172 ?_
          refine wp_iald (pc := 173) (i := (8 * t)) dX12_looks_173 (hM.i 17 rfl) ⟨by simp only [nl1, nl5, nl8, nl20, pk_mul, nI_add], by omega, by decide⟩ ?_
          refine wp_aload_n (pc := 174) dX12_looks_174 rfl rfl ?_
          refine wp_get (pc := 175) dX12_looks_175 fl_X12_78_13 hM.1 rfl ?_
          refine wp_iload_n (pc := 178) dX12_looks_178 rfl rfl ?_
          refine mp_call (pc := 179) [_, _, _, _] dX12_looks_179 rfl cv_X12_217_13 rfl ⟨(Nat.le_of_ble_eq_true rfl), (Nat.le_of_ble_eq_true rfl)⟩ (Nat.le_of_ble_eq_true rfl) ⟨rfl, rfl⟩ (ms_send l G x am _ _ _ _ _ (L := L) (by exact hL3) (by omega)) hM hF (fun h hM hF => ?_)
          refine wp_pop (pc := 182) dX12_looks_182 rfl ?_
          exact wp_vret (pc := 183) dX12_looks_183 rfl (by rw [← hQ0]; exact ⟨rfl, by simp only [lkC, eq_false c120, eq_true c129, eq_true c138, if_true, if_false, Bool.true_eq_false, Bool.false_eq_true, reduceIte, reduceCtorEq, Bool.not_true, Bool.not_false, true_and, and_true, and_false, false_and, or_true, true_or, or_false, false_or, not_true_eq_false, not_false_eq_true] <;> (first | exact hM | (have e : nx ((sL (sI M3 20 t 1) 19 t (c + (lng (sI M3 20 t 1) t).toInt64)).1 35) = L := hLx; rw [e]; exact hM)), hF⟩)
  have k88 : ∀ (d4 : Option Value) (h : Hp), InM x am M2 h → Fr x am h0 h → wp l G mX12_looks (zM G mX12_looks Q0) 88 [some (.ref x), some (.int (nI t)), some (.long c), none, d4] [] h 0 0 := by
    intro d4 h hM hF
    have h2qx : nx (M2.2.1 16 t) = q := by rw [h2q]; exact nx_nI (by omega)
    refine wp_aload_n (pc := 88) dX12_looks_88 rfl rfl ?_
    refine wp_get (pc := 89) dX12_looks_89 fl_X12_57_13 hM.1 rfl ?_
    refine wp_iload_n (pc := 92) dX12_looks_92 rfl rfl ?_
    refine wp_zald (pc := 93) (i := t) dX12_looks_93 (hM.z 20 rfl) ⟨rfl, by omega, by decide⟩ ?_
    refine wp_if_eq (pc := 94) (tgt := 114) dX12_looks_94 (by decide) (fun c94 => ?_) (fun c94 => ?_)
    · skip
      exact k114 _ h (by rw [← hM3]; simp only [lkQ, h2qx, eq_true c94, if_true, if_false, Bool.true_eq_false, Bool.false_eq_true, reduceIte, reduceCtorEq, Bool.not_true, Bool.not_false, true_and, and_true, and_false, false_and, or_true, true_or, or_false, false_or, not_true_eq_false, not_false_eq_true] <;> exact hM) hF
    · have hq0 : 0 < q := hcq (by rw [← h2c]; exact c94)
      refine wp_aload_n (pc := 97) dX12_looks_97 rfl rfl ?_
      refine wp_get (pc := 98) dX12_looks_98 fl_X12_54_13 hM.1 rfl ?_
      refine wp_iload_n (pc := 101) dX12_looks_101 rfl rfl ?_
      refine wp_lald (pc := 102) (i := t) dX12_looks_102 (hM.j 19 rfl) ⟨rfl, by omega, by decide⟩ ?_
      refine wp_lload_n (pc := 103) dX12_looks_103 rfl rfl ?_
      refine wp_lcmp_gt (pc := 104) (tgt := 114) dX12_looks_104 dX12_looks_105 (by decide) (fun c104 => ?_) (fun c104 => ?_)
      · skip
        exact k114 _ h (by rw [← hM3]; simp only [lkQ, h2qx, eq_false c94, eq_true c104, if_true, if_false, Bool.true_eq_false, Bool.false_eq_true, reduceIte, reduceCtorEq, Bool.not_true, Bool.not_false, true_and, and_true, and_false, false_and, or_true, true_or, or_false, false_or, not_true_eq_false, not_false_eq_true] <;> exact hM) hF
      · skip
        refine wp_aload_n (pc := 108) dX12_looks_108 rfl rfl ?_
        refine wp_iload_n (pc := 109) dX12_looks_109 rfl rfl ?_
        refine wp_iconst (pc := 110) (v := 0) dX12_looks_110 (by decide) ?_
        refine mp_callV (pc := 111) [_, _] dX12_looks_111 rfl cv_X12_239_13 rfl ⟨(Nat.le_of_ble_eq_true rfl), (Nat.le_of_ble_eq_true rfl)⟩ (Nat.le_of_ble_eq_true rfl) ⟨rfl, rfl⟩ (ms_unqueue l G x am _ _ 0 _ (by omega) (by exact h2q) hq2 hq0) hM hF (fun h hM hF => ?_)
        exact k114 _ h (by rw [← hM3]; simp only [lkQ, h2qx, eq_false c94, eq_false c104, if_true, if_false, Bool.true_eq_false, Bool.false_eq_true, reduceIte, reduceCtorEq, Bool.not_true, Bool.not_false, true_and, and_true, and_false, false_and, or_true, true_or, or_false, false_or, not_true_eq_false, not_false_eq_true] <;> exact hM) hF
  have loop : ∀ (n i : Nat) (M1 : MS), M1.2.1 21 t = nI (i + n) → i + n ≤ 20 → lkM M1 t c i n = LM → ∀ h, InM x am M1 h → Fr x am h0 h → wp l G mX12_looks (zM G mX12_looks Q0) 12 [some (.ref x), some (.int (nI t)), some (.long c), none, some (.int (nI i))] [] h 0 0 := by
    intro n
    induction n with
    | zero =>
      intro i M1 hg1 hi hlk h hM hF
      have hlk : M1 = LM := hlk
      subst hlk
      have hgx1 : nx (M1.2.1 21 t) = i := by rw [hg1]; exact nx_nI (by omega)
      refine wp_iload (pc := 12) dX12_looks_12 rfl ?_
      refine wp_aload_n (pc := 14) dX12_looks_14 rfl rfl ?_
      refine wp_get (pc := 15) dX12_looks_15 fl_X12_60_13 hM.1 rfl ?_
      refine wp_iload_n (pc := 18) dX12_looks_18 rfl rfl ?_
      refine wp_iald (pc := 19) (i := t) dX12_looks_19 (hM.i 21 rfl) ⟨rfl, by omega, by decide⟩ ?_
      refine wp_icmp_ge (pc := 20) (tgt := 56) dX12_looks_20 (by decide) (fun _ => ?_) (fun z => absurd (by rw [hg1]; exact nI_le (by omega) (by omega)) z)
      refine wp_aload_n (pc := 56) dX12_looks_56 rfl rfl ?_
      refine wp_get (pc := 57) dX12_looks_57 fl_X12_41_13 hM.1 rfl ?_
      refine wp_iload_n (pc := 60) dX12_looks_60 rfl rfl ?_
      refine wp_iald (pc := 61) (i := t) dX12_looks_61 (hM.i 15 rfl) ⟨rfl, by omega, by decide⟩ ?_
      refine wp_iconst (pc := 62) (v := (-1)) dX12_looks_62 (by decide) ?_
      refine wp_icmp_eq (pc := 63) (tgt := 88) dX12_looks_63 (by decide) (fun c63 => ?_) (fun c63 => ?_)
      · skip
        exact k88 _ h (by rw [← hM2]; simp only [lkR, hgx1, Nat.add_zero, eq_true c63, if_true, if_false, Bool.true_eq_false, Bool.false_eq_true, reduceIte, reduceCtorEq, Bool.not_true, Bool.not_false, true_and, and_true, and_false, false_and, or_true, true_or, or_false, false_or, not_true_eq_false, not_false_eq_true] <;> exact hM) hF
      · skip
        refine wp_aload_n (pc := 66) dX12_looks_66 rfl rfl ?_
        refine wp_iload_n (pc := 67) dX12_looks_67 rfl rfl ?_
        refine wp_aload_n (pc := 68) dX12_looks_68 rfl rfl ?_
        refine wp_get (pc := 69) dX12_looks_69 fl_X12_41_13 hM.1 rfl ?_
        refine wp_iload_n (pc := 72) dX12_looks_72 rfl rfl ?_
        refine wp_iald (pc := 73) (i := t) dX12_looks_73 (hM.i 15 rfl) ⟨rfl, by omega, by decide⟩ ?_
        refine mp_call (pc := 74) [_, _] dX12_looks_74 rfl cv_X12_235_13 rfl ⟨(Nat.le_of_ble_eq_true rfl), (Nat.le_of_ble_eq_true rfl)⟩ (Nat.le_of_ble_eq_true rfl) ⟨rfl, rfl⟩ (ms_grantOf l G x am _ _ _ _ (by omega) (by exact hg1) (by omega)) hM hF (fun h hM hF => ?_)
        refine wp_iconst (pc := 77) (v := (-1)) dX12_looks_77 (by decide) ?_
        refine wp_icmp_ne (pc := 78) (tgt := 88) dX12_looks_78 (by decide) (fun c78 => ?_) (fun c78 => ?_)
        · rw [Nat.add_zero] at c78
          exact k88 _ h (by rw [← hM2]; simp only [lkR, hgx1, Nat.add_zero, eq_false c63, eq_false c78, if_true, if_false, Bool.true_eq_false, Bool.false_eq_true, reduceIte, reduceCtorEq, Bool.not_true, Bool.not_false, true_and, and_true, and_false, false_and, or_true, true_or, or_false, false_or, not_true_eq_false, not_false_eq_true] <;> exact hM) hF
        · rw [Nat.add_zero] at c78
          refine wp_aload_n (pc := 81) dX12_looks_81 rfl rfl ?_
          refine wp_get (pc := 82) dX12_looks_82 fl_X12_41_13 hM.1 rfl ?_
          refine wp_iload_n (pc := 85) dX12_looks_85 rfl rfl ?_
          refine wp_iconst (pc := 86) (v := (-1)) dX12_looks_86 (by decide) ?_
          refine mp_iast (pc := 87) (k := 15) (i := t) dX12_looks_87 hM hF rfl ⟨rfl, by omega, by decide⟩ (fun h hM hF => ?_)
          exact k88 _ h (by rw [← hM2]; simp only [lkR, hgx1, Nat.add_zero, eq_false c63, eq_true c78, if_true, if_false, Bool.true_eq_false, Bool.false_eq_true, reduceIte, reduceCtorEq, Bool.not_true, Bool.not_false, true_and, and_true, and_false, false_and, or_true, true_or, or_false, false_or, not_true_eq_false, not_false_eq_true] <;> exact hM) hF
    | succ n ih =>
      intro i M1 hg1 hi hlk h hM hF
      unfold lkM at hlk
      refine wp_iload (pc := 12) dX12_looks_12 rfl ?_
      refine wp_aload_n (pc := 14) dX12_looks_14 rfl rfl ?_
      refine wp_get (pc := 15) dX12_looks_15 fl_X12_60_13 hM.1 rfl ?_
      refine wp_iload_n (pc := 18) dX12_looks_18 rfl rfl ?_
      refine wp_iald (pc := 19) (i := t) dX12_looks_19 (hM.i 21 rfl) ⟨rfl, by omega, by decide⟩ ?_
      refine wp_icmp_ge (pc := 20) (tgt := 56) dX12_looks_20 (by decide) (fun z => absurd z (by rw [hg1]; exact nI_ge (by omega) (by omega))) (fun _ => ?_)
      refine wp_aload_n (pc := 23) dX12_looks_23 rfl rfl ?_
      refine wp_get (pc := 24) dX12_looks_24 fl_X12_75_13 hM.1 rfl ?_
      refine wp_bipush (pc := 27) (v := 20) dX12_looks_27 (by decide) ?_
      refine wp_iload_n (pc := 29) dX12_looks_29 rfl rfl ?_
      refine wp_imul (pc := 30) dX12_looks_30 ?_
      refine wp_iload (pc := 31) dX12_looks_31 rfl ?_
      refine wp_iadd (pc := 33) dX12_looks_33 ?_
      refine wp_lald (pc := 34) (i := ((20 * t) + i)) dX12_looks_34 (hM.j 26 rfl) ⟨by simp only [nl1, nl5, nl8, nl20, pk_mul, nI_add], by omega, by decide⟩ ?_
      refine wp_lload_n (pc := 35) dX12_looks_35 rfl rfl ?_
      refine wp_lcmp_gt (pc := 36) (tgt := 50) dX12_looks_36 dX12_looks_37 (by decide) (fun c36 => ?_) (fun c36 => ?_)
      · rw [if_pos c36] at hlk
        refine wp_iinc (pc := 50) (v := _ + 1) (lv' := [_, _, _, _, _]) dX12_looks_50 rfl rfl rfl rfl ?_
        refine wp_goto (pc := 53) (tgt := 12) dX12_looks_53 (by decide) ?_
        exact wp_lv (ih (i + 1) M1 (by rw [hg1]; congr 1; omega) (by omega) hlk h hM hF) (by simp [nI_1])
      · rw [if_neg c36] at hlk
        refine wp_aload_n (pc := 40) dX12_looks_40 rfl rfl ?_
        refine wp_iload_n (pc := 41) dX12_looks_41 rfl rfl ?_
        refine wp_iload (pc := 42) dX12_looks_42 rfl ?_
        refine mp_callV (pc := 44) [_, _] dX12_looks_44 rfl cv_X12_231_13 rfl ⟨(Nat.le_of_ble_eq_true rfl), (Nat.le_of_ble_eq_true rfl)⟩ (Nat.le_of_ble_eq_true rfl) ⟨rfl, rfl⟩ (ms_goes l G x am _ _ _ (i + (n + 1)) (by omega) (by exact hg1) (by omega) (by omega)) hM hF (fun h hM hF => ?_)
        refine wp_goto (pc := 47) (tgt := 12) dX12_looks_47 (by decide) ?_
        have e9 : i + (n + 1) - 1 - i = n := by omega
        rw [e9] at hM
        exact ih i _ (by rw [goM_21, fu_s, hg1, subE (by omega)]; congr 1) (by omega) hlk h hM hF
  refine wp_aload_n (pc := 0) dX12_looks_0 rfl rfl ?_
  refine wp_aload_n (pc := 1) dX12_looks_1 rfl rfl ?_
  refine wp_get (pc := 2) dX12_looks_2 fl_X12_78_13 hM.1 rfl ?_
  rw [hk]
  refine mp_call (pc := 5) [_] dX12_looks_5 rfl cv_X12_187_13 rfl ⟨(Nat.le_of_ble_eq_true rfl), (Nat.le_of_ble_eq_true rfl)⟩ (Nat.le_of_ble_eq_true rfl) ⟨rfl, rfl⟩ (ms_kClock l G x am _ _ hk5) hM hF (fun h hM hF => ?_)
  rw [hc]
  refine wp_lstore_n (pc := 8) (lv' := [_, _, _, _, _]) dX12_looks_8 rfl (Nat.le_of_ble_eq_true rfl) rfl rfl ?_
  refine wp_iconst (pc := 9) (v := 0) dX12_looks_9 (by decide) ?_
  refine wp_istore (pc := 10) (lv' := [_, _, _, _, _]) dX12_looks_10 (Nat.le_of_ble_eq_true rfl) rfl rfl ?_
  exact loop g 0 M (by rw [hg, Nat.zero_add]) (by omega) hLM h hM hF
end M4
