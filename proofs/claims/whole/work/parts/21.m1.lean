/-! ===== the reference's functions, and its small methods ===== -/
def bi (b : Bool) : Int32 := if b then 1 else 0
theorem bi01 (b : Bool) : bi b = 0 ∨ bi b = 1 := by cases b <;> simp [bi]
theorem bi0 {b : Bool} : bi b = 0 ↔ b = false := by cases b <;> simp [bi]
theorem bin0 {b : Bool} : ¬ bi b = 0 ↔ b = true := by cases b <;> simp [bi]
section WB
variable {l : Launch} {G : WG} {μ : MI} {Z : WZ} {pc : Nat} {lv : List (Option Value)} {st : List Value} {h : Hp} {rc rs : Nat}
theorem wp_ifB_eq {b : Bool} {off : Int} {tgt : Nat} (hd : decode (mC μ) pc = .ok (.ifCond .eq off, 3)) (ht : (pc : Int) + off = (tgt : Int)) (kt : b = false → wp l G μ Z tgt lv st h rc rs) (kf : b = true → wp l G μ Z (pc + 3) lv st h rc rs) : wp l G μ Z pc lv (.int (bi b) :: st) h rc rs := wp_if_eq hd ht (fun z => kt (bi0.mp z)) (fun z => kf (bin0.mp z))
theorem wp_ifB_ne {b : Bool} {off : Int} {tgt : Nat} (hd : decode (mC μ) pc = .ok (.ifCond .ne off, 3)) (ht : (pc : Int) + off = (tgt : Int)) (kt : b = true → wp l G μ Z tgt lv st h rc rs) (kf : b = false → wp l G μ Z (pc + 3) lv st h rc rs) : wp l G μ Z pc lv (.int (bi b) :: st) h rc rs := wp_if_ne hd ht (fun z => kt (bin0.mp z)) (fun z => kf (bi0.mp z))
end WB
def fin (v lo hi : Int32) : Bool := if v < lo then false else if hi < v then false else true
def nx (v : Int32) : Nat := v.toNatClampNeg
def isIx (v : Int32) (n : Nat) : Bool := decide (0 ≤ v) && decide (v.toInt < n)
theorem isIx_t {v : Int32} {n : Nat} (h : isIx v n = true) (hn : n < 2 ^ 31) : ∃ j, j < n ∧ v = nI j := by
  simp only [isIx, Bool.and_eq_true, decide_eq_true_eq] at h
  obtain ⟨j, hj, rfl⟩ := nI_of (Int32.not_lt.mpr h.1)
  rw [nI_toInt hj] at h
  exact ⟨j, by omega, rfl⟩
theorem isIx_nI {j n : Nat} (h : j < n) (hn : n < 2 ^ 31) : isIx (nI j) n = true := by
  simp only [isIx, Bool.and_eq_true, decide_eq_true_eq]
  exact ⟨nI_pos' (by omega), by rw [nI_toInt (by omega)]; omega⟩
theorem fin_ix (v : Int32) {n : Nat} (hn : n < 2 ^ 31) : fin v 0 (nI n - 1) = isIx v n := by
  have e : (nI n - 1).toInt = (n : Int) - 1 := by
    cases n with
    | zero => decide
    | succ n => rw [nI_pred, nI_toInt (by omega)]; omega
  have h1 : (v < 0) ↔ v.toInt < 0 := by rw [Int32.lt_iff_toInt_lt]; simp
  have h2 : (nI n - 1 < v) ↔ (n : Int) - 1 < v.toInt := by rw [Int32.lt_iff_toInt_lt, e]
  have h3 : (0 ≤ v) ↔ 0 ≤ v.toInt := by rw [Int32.le_iff_toInt_le]; simp
  unfold fin isIx
  by_cases a : v.toInt < 0
  · simp [h1, h3, a]; omega
  · by_cases b : (n : Int) - 1 < v.toInt
    · simp [h1, h2, h3, a, b]; omega
    · simp [h1, h2, h3, a, b]; omega
theorem wp_lv {l : Launch} {G : WG} {μ : MI} {Z : WZ} {pc : Nat} {lv lv' : List (Option Value)} {st : List Value} {h : Hp} {rc rs : Nat} (k : wp l G μ Z pc lv' st h rc rs) (e : lv' = lv) : wp l G μ Z pc lv st h rc rs := e ▸ k
theorem loopU (P : Nat → Prop) (K : Nat) (hs : ∀ i, i < K → P (i + 1) → P i) (he : P K) : ∀ i, i ≤ K → P i := by
  intro i hi
  obtain ⟨n, rfl⟩ : ∃ n, K = i + n := ⟨K - i, by omega⟩
  induction n generalizing i with
  | zero => exact he
  | succ n ih => exact hs i (by omega) (ih (i + 1) (by rw [Nat.add_assoc, Nat.add_comm 1]; exact hs) (by rw [Nat.add_assoc, Nat.add_comm 1]; exact he) (by omega))
theorem nx_nI {j : Nat} (h : j < 2 ^ 31) : nx (nI j) = j := nI_clamp h
section M1
variable (l : Launch) (G : WG) (x : Nat) (am : Nat → Nat) (M : MS)
theorem ms_in (v lo hi : Int32) (h : Hp) : Sp l G mX12_in [.int v, .int lo, .int hi] h (fun w h' => w = some (.int (bi (fin v lo hi))) ∧ h' = h) := by
  refine Sp.intro (lv := [_, _, _]) (by decide) rfl (Nat.le_of_ble_eq_true rfl) ?_
  refine wp_iload_n (pc := 0) dX12_in_0 rfl rfl ?_
  refine wp_iload_n (pc := 1) dX12_in_1 rfl rfl ?_
  refine wp_icmp_lt (pc := 2) (tgt := 14) dX12_in_2 (by decide) (fun c2 => ?_) (fun c2 => ?_)
  · skip
    refine wp_iconst (pc := 14) (v := 0) dX12_in_14 (by decide) ?_
    exact wp_zret (pc := 15) dX12_in_15 rfl (by decide) ⟨by simp [fin, bi, eq_true c2], rfl⟩
  · skip
    refine wp_iload_n (pc := 5) dX12_in_5 rfl rfl ?_
    refine wp_iload_n (pc := 6) dX12_in_6 rfl rfl ?_
    refine wp_icmp_gt (pc := 7) (tgt := 14) dX12_in_7 (by decide) (fun c7 => ?_) (fun c7 => ?_)
    · skip
      refine wp_iconst (pc := 14) (v := 0) dX12_in_14 (by decide) ?_
      exact wp_zret (pc := 15) dX12_in_15 rfl (by decide) ⟨by simp [fin, bi, eq_false c2, eq_true c7], rfl⟩
    · skip
      refine wp_iconst (pc := 10) (v := 1) dX12_in_10 (by decide) ?_
      refine wp_goto (pc := 11) (tgt := 15) dX12_in_11 (by decide) ?_
      exact wp_zret (pc := 15) dX12_in_15 rfl (by decide) ⟨by simp [fin, bi, eq_false c2, eq_false c7], rfl⟩
def isClk (M : MS) (b r : Int32) : Bool := if fin b (-1000000) 1000000 = false then false else if fin r (1000 - M.1 0) (1000 + M.1 0) = false then false else true
theorem ms_isClock (b : Int32) (r : Int32)   : MSp l G x am mX12_isClock [.int b, .int r] M (some (.int (bi (isClk M b r)))) M := by
  refine MSp.intro (lv := [_, _, _]) (by decide) rfl (Nat.le_of_ble_eq_true rfl) (fun h0 h hM hF => ?_)
  refine wp_iload_n (pc := 0) dX12_isClock_0 rfl rfl ?_
  refine wp_ldc (pc := 1) dX12_isClock_1 w6_17 ?_
  refine wp_ldc (pc := 3) dX12_isClock_3 w6_18 ?_
  refine mp_callS (pc := 5) [_, _, _] dX12_isClock_5 rfl cs_X12_153 rfl ⟨(Nat.le_of_ble_eq_true rfl), (Nat.le_of_ble_eq_true rfl)⟩ (Nat.le_of_ble_eq_true rfl) ⟨rfl, rfl⟩ (ms_in l G _ _ _ h) ?_
  refine wp_ifB_eq (pc := 8) (tgt := 38) dX12_isClock_8 (by decide) (fun c8 => ?_) (fun c8 => ?_)
  · skip
    refine wp_iconst (pc := 38) (v := 0) dX12_isClock_38 (by decide) ?_
    exact wp_zret (pc := 39) dX12_isClock_39 rfl (by decide) ⟨by simp [isClk, bi, c8], hM, hF⟩
  · skip
    refine wp_iload_n (pc := 11) dX12_isClock_11 rfl rfl ?_
    refine wp_sipush (pc := 12) (v := 1000) dX12_isClock_12 (by decide) ?_
    refine wp_aload_n (pc := 15) dX12_isClock_15 rfl rfl ?_
    refine wp_get (pc := 16) dX12_isClock_16 fl_X12_148_13 hM.1 rfl ?_
    refine wp_isub (pc := 19) dX12_isClock_19 ?_
    refine wp_sipush (pc := 20) (v := 1000) dX12_isClock_20 (by decide) ?_
    refine wp_aload_n (pc := 23) dX12_isClock_23 rfl rfl ?_
    refine wp_get (pc := 24) dX12_isClock_24 fl_X12_148_13 hM.1 rfl ?_
    refine wp_iadd (pc := 27) dX12_isClock_27 ?_
    refine mp_callS (pc := 28) [_, _, _] dX12_isClock_28 rfl cs_X12_153 rfl ⟨(Nat.le_of_ble_eq_true rfl), (Nat.le_of_ble_eq_true rfl)⟩ (Nat.le_of_ble_eq_true rfl) ⟨rfl, rfl⟩ (ms_in l G _ _ _ h) ?_
    refine wp_ifB_eq (pc := 31) (tgt := 38) dX12_isClock_31 (by decide) (fun c31 => ?_) (fun c31 => ?_)
    · skip
      refine wp_iconst (pc := 38) (v := 0) dX12_isClock_38 (by decide) ?_
      exact wp_zret (pc := 39) dX12_isClock_39 rfl (by decide) ⟨by simp [isClk, bi, c8, c31], hM, hF⟩
    · skip
      refine wp_iconst (pc := 34) (v := 1) dX12_isClock_34 (by decide) ?_
      refine wp_goto (pc := 35) (tgt := 39) dX12_isClock_35 (by decide) ?_
      exact wp_zret (pc := 39) dX12_isClock_39 rfl (by decide) ⟨by simp [isClk, bi, c8, c31], hM, hF⟩
theorem ms_isKeeper (v : Int32)  {K : Nat} (hK : M.1 2 = nI K) (hK5 : K ≤ 5) : MSp l G x am mX12_isKeeper [.int v] M (some (.int (bi (isIx v K)))) M := by
  refine MSp.intro (lv := [_, _]) (by decide) rfl (Nat.le_of_ble_eq_true rfl) (fun h0 h hM hF => ?_)
  refine wp_iload_n (pc := 0) dX12_isKeeper_0 rfl rfl ?_
  refine wp_iconst (pc := 1) (v := 0) dX12_isKeeper_1 (by decide) ?_
  refine wp_aload_n (pc := 2) dX12_isKeeper_2 rfl rfl ?_
  refine wp_get (pc := 3) dX12_isKeeper_3 fl_X12_161_13 hM.1 rfl ?_
  refine wp_iconst (pc := 6) (v := 1) dX12_isKeeper_6 (by decide) ?_
  refine wp_isub (pc := 7) dX12_isKeeper_7 ?_
  refine mp_callS (pc := 8) [_, _, _] dX12_isKeeper_8 rfl cs_X12_153 rfl ⟨(Nat.le_of_ble_eq_true rfl), (Nat.le_of_ble_eq_true rfl)⟩ (Nat.le_of_ble_eq_true rfl) ⟨rfl, rfl⟩ (ms_in l G _ _ _ h) ?_
  exact wp_zret (pc := 11) dX12_isKeeper_11 rfl (bi01 _) ⟨by rw [hK, fin_ix v (by omega)], hM, hF⟩
theorem ms_isWorker (v : Int32)  {W : Nat} (hW : M.1 6 = nI W) (hW2 : W ≤ 20) : MSp l G x am mX12_isWorker [.int v] M (some (.int (bi (isIx v W)))) M := by
  refine MSp.intro (lv := [_, _]) (by decide) rfl (Nat.le_of_ble_eq_true rfl) (fun h0 h hM hF => ?_)
  refine wp_iload_n (pc := 0) dX12_isWorker_0 rfl rfl ?_
  refine wp_iconst (pc := 1) (v := 0) dX12_isWorker_1 (by decide) ?_
  refine wp_aload_n (pc := 2) dX12_isWorker_2 rfl rfl ?_
  refine wp_get (pc := 3) dX12_isWorker_3 fl_X12_164_13 hM.1 rfl ?_
  refine wp_iconst (pc := 6) (v := 1) dX12_isWorker_6 (by decide) ?_
  refine wp_isub (pc := 7) dX12_isWorker_7 ?_
  refine mp_callS (pc := 8) [_, _, _] dX12_isWorker_8 rfl cs_X12_153 rfl ⟨(Nat.le_of_ble_eq_true rfl), (Nat.le_of_ble_eq_true rfl)⟩ (Nat.le_of_ble_eq_true rfl) ⟨rfl, rfl⟩ (ms_in l G _ _ _ h) ?_
  exact wp_zret (pc := 11) dX12_isWorker_11 rfl (bi01 _) ⟨by rw [hW, fin_ix v (by omega)], hM, hF⟩
theorem ms_isThing (v : Int32)  {N : Nat} (hT : M.1 11 = nI N) (hT2 : N ≤ 20) : MSp l G x am mX12_isThing [.int v] M (some (.int (bi (isIx v N)))) M := by
  refine MSp.intro (lv := [_, _]) (by decide) rfl (Nat.le_of_ble_eq_true rfl) (fun h0 h hM hF => ?_)
  refine wp_iload_n (pc := 0) dX12_isThing_0 rfl rfl ?_
  refine wp_iconst (pc := 1) (v := 0) dX12_isThing_1 (by decide) ?_
  refine wp_aload_n (pc := 2) dX12_isThing_2 rfl rfl ?_
  refine wp_get (pc := 3) dX12_isThing_3 fl_X12_167_13 hM.1 rfl ?_
  refine wp_iconst (pc := 6) (v := 1) dX12_isThing_6 (by decide) ?_
  refine wp_isub (pc := 7) dX12_isThing_7 ?_
  refine mp_callS (pc := 8) [_, _, _] dX12_isThing_8 rfl cs_X12_153 rfl ⟨(Nat.le_of_ble_eq_true rfl), (Nat.le_of_ble_eq_true rfl)⟩ (Nat.le_of_ble_eq_true rfl) ⟨rfl, rfl⟩ (ms_in l G _ _ _ h) ?_
  exact wp_zret (pc := 11) dX12_isThing_11 rfl (bi01 _) ⟨by rw [hT, fin_ix v (by omega)], hM, hF⟩
theorem ms_isLetter (v : Int32)  {L : Nat} (hL : M.1 35 = nI L) (hL4 : L ≤ 400) : MSp l G x am mX12_isLetter [.int v] M (some (.int (bi (isIx v L)))) M := by
  refine MSp.intro (lv := [_, _]) (by decide) rfl (Nat.le_of_ble_eq_true rfl) (fun h0 h hM hF => ?_)
  refine wp_iload_n (pc := 0) dX12_isLetter_0 rfl rfl ?_
  refine wp_iconst (pc := 1) (v := 0) dX12_isLetter_1 (by decide) ?_
  refine wp_aload_n (pc := 2) dX12_isLetter_2 rfl rfl ?_
  refine wp_get (pc := 3) dX12_isLetter_3 fl_X12_178_13 hM.1 rfl ?_
  refine wp_iconst (pc := 6) (v := 1) dX12_isLetter_6 (by decide) ?_
  refine wp_isub (pc := 7) dX12_isLetter_7 ?_
  refine mp_callS (pc := 8) [_, _, _] dX12_isLetter_8 rfl cs_X12_153 rfl ⟨(Nat.le_of_ble_eq_true rfl), (Nat.le_of_ble_eq_true rfl)⟩ (Nat.le_of_ble_eq_true rfl) ⟨rfl, rfl⟩ (ms_in l G _ _ _ h) ?_
  exact wp_zret (pc := 11) dX12_isLetter_11 rfl (bi01 _) ⟨by rw [hL, fin_ix v (by omega)], hM, hF⟩
theorem ms_isStore (v : Int32)  {S : Nat} (hS : M.1 46 = nI S) (hS6 : S ≤ 6) : MSp l G x am mX12_isStore [.int v] M (some (.int (bi (isIx v S)))) M := by
  refine MSp.intro (lv := [_, _]) (by decide) rfl (Nat.le_of_ble_eq_true rfl) (fun h0 h hM hF => ?_)
  refine wp_iload_n (pc := 0) dX12_isStore_0 rfl rfl ?_
  refine wp_iconst (pc := 1) (v := 0) dX12_isStore_1 (by decide) ?_
  refine wp_aload_n (pc := 2) dX12_isStore_2 rfl rfl ?_
  refine wp_get (pc := 3) dX12_isStore_3 fl_X12_170_13 hM.1 rfl ?_
  refine wp_iconst (pc := 6) (v := 1) dX12_isStore_6 (by decide) ?_
  refine wp_isub (pc := 7) dX12_isStore_7 ?_
  refine mp_callS (pc := 8) [_, _, _] dX12_isStore_8 rfl cs_X12_153 rfl ⟨(Nat.le_of_ble_eq_true rfl), (Nat.le_of_ble_eq_true rfl)⟩ (Nat.le_of_ble_eq_true rfl) ⟨rfl, rfl⟩ (ms_in l G _ _ _ h) ?_
  exact wp_zret (pc := 11) dX12_isStore_11 rfl (bi01 _) ⟨by rw [hS, fin_ix v (by omega)], hM, hF⟩
def f_keeper (M : MS) (b r : Int32) : Int32 × MS := if isClk M b r = false then (-2, M) else if M.1 2 = 5 then (-4, M) else (M.1 2 + 1 - 1, sS (sI (sI (sI M 3 (nx (M.1 2)) b) 4 (nx (M.1 2)) r) 5 (nx (M.1 2)) 1) 2 (M.1 2 + 1))
theorem eq5 {K : Nat} (h : K ≤ 5) (hn : ¬ nI K = 5) : K < 5 := by
  rcases Nat.lt_or_ge K 5 with z | z
  · exact z
  · exact absurd (by rw [show K = 5 by omega]; rfl) hn
theorem eq20 {K : Nat} (h : K ≤ 20) (hn : ¬ nI K = 20) : K < 20 := by
  rcases Nat.lt_or_ge K 20 with z | z
  · exact z
  · exact absurd (by rw [show K = 20 by omega]; rfl) hn
theorem ms_keeper (b : Int32) (r : Int32)  {K : Nat} (hK : M.1 2 = nI K) (hK5 : K ≤ 5) : MSp l G x am mX12_keeper [.int b, .int r] M (some (.int (f_keeper M b r).1)) (f_keeper M b r).2 := by
  refine MSp.intro (lv := [_, _, _]) (by decide) rfl (Nat.le_of_ble_eq_true rfl) (fun h0 h hM hF => ?_)
  have hKx : nx (M.1 2) = K := by rw [hK]; exact nx_nI (by omega)
  refine wp_aload_n (pc := 0) dX12_keeper_0 rfl rfl ?_
  refine wp_iload_n (pc := 1) dX12_keeper_1 rfl rfl ?_
  refine wp_iload_n (pc := 2) dX12_keeper_2 rfl rfl ?_
  refine mp_call (pc := 3) [_, _] dX12_keeper_3 rfl cv_X12_157_13 rfl ⟨(Nat.le_of_ble_eq_true rfl), (Nat.le_of_ble_eq_true rfl)⟩ (Nat.le_of_ble_eq_true rfl) ⟨rfl, rfl⟩ (ms_isClock l G x am _ _ _) hM hF (fun h hM hF => ?_)
  refine wp_ifB_ne (pc := 6) (tgt := 12) dX12_keeper_6 (by decide) (fun c6 => ?_) (fun c6 => ?_)
  · skip
    refine wp_aload_n (pc := 12) dX12_keeper_12 rfl rfl ?_
    refine wp_get (pc := 13) dX12_keeper_13 fl_X12_161_13 hM.1 rfl ?_
    refine wp_iconst (pc := 16) (v := 5) dX12_keeper_16 (by decide) ?_
    refine wp_icmp_ne (pc := 17) (tgt := 23) dX12_keeper_17 (by decide) (fun c17 => ?_) (fun c17 => ?_)
    · have hk5 := eq5 hK5 (by rw [← hK]; exact c17)
      refine wp_aload_n (pc := 23) dX12_keeper_23 rfl rfl ?_
      refine wp_get (pc := 24) dX12_keeper_24 fl_X12_7_13 hM.1 rfl ?_
      refine wp_aload_n (pc := 27) dX12_keeper_27 rfl rfl ?_
      refine wp_get (pc := 28) dX12_keeper_28 fl_X12_161_13 hM.1 rfl ?_
      refine wp_iload_n (pc := 31) dX12_keeper_31 rfl rfl ?_
      refine mp_iast (pc := 32) (k := 3) (i := K) dX12_keeper_32 hM hF rfl ⟨hK, by omega, by decide⟩ (fun h hM hF => ?_)
      refine wp_aload_n (pc := 33) dX12_keeper_33 rfl rfl ?_
      refine wp_get (pc := 34) dX12_keeper_34 fl_X12_13_13 hM.1 rfl ?_
      refine wp_aload_n (pc := 37) dX12_keeper_37 rfl rfl ?_
      refine wp_get (pc := 38) dX12_keeper_38 fl_X12_161_13 hM.1 rfl ?_
      refine wp_iload_n (pc := 41) dX12_keeper_41 rfl rfl ?_
      refine mp_iast (pc := 42) (k := 4) (i := K) dX12_keeper_42 hM hF rfl ⟨hK, by omega, by decide⟩ (fun h hM hF => ?_)
      refine wp_aload_n (pc := 43) dX12_keeper_43 rfl rfl ?_
      refine wp_get (pc := 44) dX12_keeper_44 fl_X12_16_13 hM.1 rfl ?_
      refine wp_aload_n (pc := 47) dX12_keeper_47 rfl rfl ?_
      refine wp_get (pc := 48) dX12_keeper_48 fl_X12_161_13 hM.1 rfl ?_
      refine wp_iconst (pc := 51) (v := 1) dX12_keeper_51 (by decide) ?_
      refine mp_zast (pc := 52) (k := 5) (i := K) dX12_keeper_52 hM hF rfl ⟨hK, by omega, by decide⟩ (by decide) (fun h hM hF => ?_)
      refine wp_aload_n (pc := 53) dX12_keeper_53 rfl rfl ?_
      refine wp_dup (pc := 54) dX12_keeper_54 rfl ?_
      refine wp_get (pc := 55) dX12_keeper_55 fl_X12_161_13 hM.1 rfl ?_
      refine wp_iconst (pc := 58) (v := 1) dX12_keeper_58 (by decide) ?_
      refine wp_iadd (pc := 59) dX12_keeper_59 ?_
      refine mp_putS (pc := 60) dX12_keeper_60 fl_X12_161_13 hM hF rfl rfl (by decide) rfl (fun h hM hF => ?_)
      refine wp_aload_n (pc := 63) dX12_keeper_63 rfl rfl ?_
      refine wp_get (pc := 64) dX12_keeper_64 fl_X12_161_13 hM.1 rfl ?_
      refine wp_iconst (pc := 67) (v := 1) dX12_keeper_67 (by decide) ?_
      refine wp_isub (pc := 68) dX12_keeper_68 ?_
      exact wp_iret (pc := 69) dX12_keeper_69 rfl ⟨by simp only [f_keeper, c6, eq_false c17, if_true, if_false, Bool.true_eq_false, Bool.false_eq_true, reduceIte, reduceCtorEq, Bool.not_true, Bool.not_false, true_and, and_true, and_false, false_and, or_true, true_or, or_false, false_or, not_true_eq_false, not_false_eq_true] <;> rfl, by simp only [f_keeper, c6, eq_false c17, if_true, if_false, Bool.true_eq_false, Bool.false_eq_true, reduceIte, reduceCtorEq, Bool.not_true, Bool.not_false, true_and, and_true, and_false, false_and, or_true, true_or, or_false, false_or, not_true_eq_false, not_false_eq_true, hKx] <;> exact hM, hF⟩
    · skip
      refine wp_bipush (pc := 20) (v := (-4)) dX12_keeper_20 (by decide) ?_
      exact wp_iret (pc := 22) dX12_keeper_22 rfl ⟨by simp only [f_keeper, c6, eq_true c17, if_true, if_false, Bool.true_eq_false, Bool.false_eq_true, reduceIte, reduceCtorEq, Bool.not_true, Bool.not_false, true_and, and_true, and_false, false_and, or_true, true_or, or_false, false_or, not_true_eq_false, not_false_eq_true] <;> rfl, by simp only [f_keeper, c6, eq_true c17, if_true, if_false, Bool.true_eq_false, Bool.false_eq_true, reduceIte, reduceCtorEq, Bool.not_true, Bool.not_false, true_and, and_true, and_false, false_and, or_true, true_or, or_false, false_or, not_true_eq_false, not_false_eq_true, hKx] <;> exact hM, hF⟩
  · skip
    refine wp_bipush (pc := 9) (v := (-2)) dX12_keeper_9 (by decide) ?_
    exact wp_iret (pc := 11) dX12_keeper_11 rfl ⟨by simp only [f_keeper, c6, if_true, if_false, Bool.true_eq_false, Bool.false_eq_true, reduceIte, reduceCtorEq, Bool.not_true, Bool.not_false, true_and, and_true, and_false, false_and, or_true, true_or, or_false, false_or, not_true_eq_false, not_false_eq_true] <;> rfl, by simp only [f_keeper, c6, if_true, if_false, Bool.true_eq_false, Bool.false_eq_true, reduceIte, reduceCtorEq, Bool.not_true, Bool.not_false, true_and, and_true, and_false, false_and, or_true, true_or, or_false, false_or, not_true_eq_false, not_false_eq_true, hKx] <;> exact hM, hF⟩
def f_worker (M : MS) (b r : Int32) : Int32 × MS := if isClk M b r = false then (-2, M) else if M.1 6 = 20 then (-4, M) else (M.1 6 + 1 - 1, sS (sI (sI (sI M 7 (nx (M.1 6)) b) 8 (nx (M.1 6)) r) 10 (nx (M.1 6)) 1) 6 (M.1 6 + 1))
def thingOk (k ln w : Int32) : Bool := if fin k 0 4 = false then false else if fin ln 1 1000 = false then false else if k = 2 then fin w 1 100 else decide (w = 0)
def f_thing (M : MS) (k ln w : Int32) : Int32 × MS := if thingOk k ln w = false then (-2, M) else if M.1 11 = 20 then (-4, M) else (M.1 11 + 1 - 1, sS (sI (sI (sI (sI M 12 (nx (M.1 11)) k) 13 (nx (M.1 11)) ln) 14 (nx (M.1 11)) w) 15 (nx (M.1 11)) (-1)) 11 (M.1 11 + 1))
def f_store (M : MS) : Int32 × MS := if M.1 46 = 6 then (-4, M) else (M.1 46 + 1 - 1, sS M 46 (M.1 46 + 1))
def f_tick (M : MS) (n : Int32) : Int32 × MS := if fin n 0 100000 = false then (-2, M) else if M.1 1 + n ≤ 100000000 then (M.1 1 + n, sS M 1 (M.1 1 + n)) else (-4, M)
def kClk (M : MS) (k : Nat) : Int64 := (M.2.1 3 k).toInt64 + (M.1 1).toInt64 * (M.2.1 4 k).toInt64 / 1000
def wClk (M : MS) (k : Nat) : Int64 := (M.2.1 7 k).toInt64 + (M.1 1).toInt64 * (M.2.1 8 k).toInt64 / 1000
def f_clock (M : MS) (what who : Int32) : Int64 := if what = 0 ∧ isIx who (nx (M.1 2)) = true then kClk M (nx who) else if what = 1 ∧ isIx who (nx (M.1 6)) = true then wClk M (nx who) else -4611686018427387904
def lng (M : MS) (t : Nat) : Int32 := (M.2.1 13 t * (1000 + M.1 0) + (1000 - M.1 0) - 1) / (1000 - M.1 0) + 2
def awk (M : MS) : Nat → Int32
  | 0 => 0
  | k + 1 => awk M k + (if M.2.1 5 k = 0 then 0 else 1)
def isMst (M : MS) : Bool := if 2 * awk M (nx (M.1 2)) ≤ M.1 2 then false else true
theorem ms_worker (b : Int32) (r : Int32)  {W : Nat} (hW : M.1 6 = nI W) (hW2 : W ≤ 20) : MSp l G x am mX12_worker [.int b, .int r] M (some (.int (f_worker M b r).1)) (f_worker M b r).2 := by
  refine MSp.intro (lv := [_, _, _]) (by decide) rfl (Nat.le_of_ble_eq_true rfl) (fun h0 h hM hF => ?_)
  have hWx : nx (M.1 6) = W := by rw [hW]; exact nx_nI (by omega)
  refine wp_aload_n (pc := 0) dX12_worker_0 rfl rfl ?_
  refine wp_iload_n (pc := 1) dX12_worker_1 rfl rfl ?_
  refine wp_iload_n (pc := 2) dX12_worker_2 rfl rfl ?_
  refine mp_call (pc := 3) [_, _] dX12_worker_3 rfl cv_X12_157_13 rfl ⟨(Nat.le_of_ble_eq_true rfl), (Nat.le_of_ble_eq_true rfl)⟩ (Nat.le_of_ble_eq_true rfl) ⟨rfl, rfl⟩ (ms_isClock l G x am _ _ _) hM hF (fun h hM hF => ?_)
  refine wp_ifB_ne (pc := 6) (tgt := 12) dX12_worker_6 (by decide) (fun c6 => ?_) (fun c6 => ?_)
  · skip
    refine wp_aload_n (pc := 12) dX12_worker_12 rfl rfl ?_
    refine wp_get (pc := 13) dX12_worker_13 fl_X12_164_13 hM.1 rfl ?_
    refine wp_bipush (pc := 16) (v := 20) dX12_worker_16 (by decide) ?_
    refine wp_icmp_ne (pc := 18) (tgt := 24) dX12_worker_18 (by decide) (fun c18 => ?_) (fun c18 => ?_)
    · have hk5 := eq20 hW2 (by rw [← hW]; exact c18)
      refine wp_aload_n (pc := 24) dX12_worker_24 rfl rfl ?_
      refine wp_get (pc := 25) dX12_worker_25 fl_X12_20_13 hM.1 rfl ?_
      refine wp_aload_n (pc := 28) dX12_worker_28 rfl rfl ?_
      refine wp_get (pc := 29) dX12_worker_29 fl_X12_164_13 hM.1 rfl ?_
      refine wp_iload_n (pc := 32) dX12_worker_32 rfl rfl ?_
      refine mp_iast (pc := 33) (k := 7) (i := W) dX12_worker_33 hM hF rfl ⟨hW, by omega, by decide⟩ (fun h hM hF => ?_)
      refine wp_aload_n (pc := 34) dX12_worker_34 rfl rfl ?_
      refine wp_get (pc := 35) dX12_worker_35 fl_X12_23_13 hM.1 rfl ?_
      refine wp_aload_n (pc := 38) dX12_worker_38 rfl rfl ?_
      refine wp_get (pc := 39) dX12_worker_39 fl_X12_164_13 hM.1 rfl ?_
      refine wp_iload_n (pc := 42) dX12_worker_42 rfl rfl ?_
      refine mp_iast (pc := 43) (k := 8) (i := W) dX12_worker_43 hM hF rfl ⟨hW, by omega, by decide⟩ (fun h hM hF => ?_)
      refine wp_aload_n (pc := 44) dX12_worker_44 rfl rfl ?_
      refine wp_get (pc := 45) dX12_worker_45 fl_X12_29_13 hM.1 rfl ?_
      refine wp_aload_n (pc := 48) dX12_worker_48 rfl rfl ?_
      refine wp_get (pc := 49) dX12_worker_49 fl_X12_164_13 hM.1 rfl ?_
      refine wp_iconst (pc := 52) (v := 1) dX12_worker_52 (by decide) ?_
      refine mp_zast (pc := 53) (k := 10) (i := W) dX12_worker_53 hM hF rfl ⟨hW, by omega, by decide⟩ (by decide) (fun h hM hF => ?_)
      refine wp_aload_n (pc := 54) dX12_worker_54 rfl rfl ?_
      refine wp_dup (pc := 55) dX12_worker_55 rfl ?_
      refine wp_get (pc := 56) dX12_worker_56 fl_X12_164_13 hM.1 rfl ?_
      refine wp_iconst (pc := 59) (v := 1) dX12_worker_59 (by decide) ?_
      refine wp_iadd (pc := 60) dX12_worker_60 ?_
      refine mp_putS (pc := 61) dX12_worker_61 fl_X12_164_13 hM hF rfl rfl (by decide) rfl (fun h hM hF => ?_)
      refine wp_aload_n (pc := 64) dX12_worker_64 rfl rfl ?_
      refine wp_get (pc := 65) dX12_worker_65 fl_X12_164_13 hM.1 rfl ?_
      refine wp_iconst (pc := 68) (v := 1) dX12_worker_68 (by decide) ?_
      refine wp_isub (pc := 69) dX12_worker_69 ?_
      exact wp_iret (pc := 70) dX12_worker_70 rfl ⟨by simp only [f_worker, c6, eq_false c18, if_true, if_false, Bool.true_eq_false, Bool.false_eq_true, reduceIte, reduceCtorEq, Bool.not_true, Bool.not_false, true_and, and_true, and_false, false_and, or_true, true_or, or_false, false_or, not_true_eq_false, not_false_eq_true] <;> rfl, by simp only [f_worker, c6, eq_false c18, if_true, if_false, Bool.true_eq_false, Bool.false_eq_true, reduceIte, reduceCtorEq, Bool.not_true, Bool.not_false, true_and, and_true, and_false, false_and, or_true, true_or, or_false, false_or, not_true_eq_false, not_false_eq_true, hWx] <;> exact hM, hF⟩
    · skip
      refine wp_bipush (pc := 21) (v := (-4)) dX12_worker_21 (by decide) ?_
      exact wp_iret (pc := 23) dX12_worker_23 rfl ⟨by simp only [f_worker, c6, eq_true c18, if_true, if_false, Bool.true_eq_false, Bool.false_eq_true, reduceIte, reduceCtorEq, Bool.not_true, Bool.not_false, true_and, and_true, and_false, false_and, or_true, true_or, or_false, false_or, not_true_eq_false, not_false_eq_true] <;> rfl, by simp only [f_worker, c6, eq_true c18, if_true, if_false, Bool.true_eq_false, Bool.false_eq_true, reduceIte, reduceCtorEq, Bool.not_true, Bool.not_false, true_and, and_true, and_false, false_and, or_true, true_or, or_false, false_or, not_true_eq_false, not_false_eq_true, hWx] <;> exact hM, hF⟩
  · skip
    refine wp_bipush (pc := 9) (v := (-2)) dX12_worker_9 (by decide) ?_
    exact wp_iret (pc := 11) dX12_worker_11 rfl ⟨by simp only [f_worker, c6, if_true, if_false, Bool.true_eq_false, Bool.false_eq_true, reduceIte, reduceCtorEq, Bool.not_true, Bool.not_false, true_and, and_true, and_false, false_and, or_true, true_or, or_false, false_or, not_true_eq_false, not_false_eq_true] <;> rfl, by simp only [f_worker, c6, if_true, if_false, Bool.true_eq_false, Bool.false_eq_true, reduceIte, reduceCtorEq, Bool.not_true, Bool.not_false, true_and, and_true, and_false, false_and, or_true, true_or, or_false, false_or, not_true_eq_false, not_false_eq_true, hWx] <;> exact hM, hF⟩
theorem ms_thing (k : Int32) (ln : Int32) (w : Int32)  {N : Nat} (hT : M.1 11 = nI N) (hT2 : N ≤ 20) : MSp l G x am mX12_thing [.int k, .int ln, .int w] M (some (.int (f_thing M k ln w).1)) (f_thing M k ln w).2 := by
  refine MSp.intro (lv := [_, _, _, _]) (by decide) rfl (Nat.le_of_ble_eq_true rfl) (fun h0 h hM hF => ?_)
  have hTx : nx (M.1 11) = N := by rw [hT]; exact nx_nI (by omega)
  refine wp_iload_n (pc := 0) dX12_thing_0 rfl rfl ?_
  refine wp_iconst (pc := 1) (v := 0) dX12_thing_1 (by decide) ?_
  refine wp_iconst (pc := 2) (v := 4) dX12_thing_2 (by decide) ?_
  refine mp_callS (pc := 3) [_, _, _] dX12_thing_3 rfl cs_X12_153 rfl ⟨(Nat.le_of_ble_eq_true rfl), (Nat.le_of_ble_eq_true rfl)⟩ (Nat.le_of_ble_eq_true rfl) ⟨rfl, rfl⟩ (ms_in l G _ _ _ h) ?_
  refine wp_ifB_eq (pc := 6) (tgt := 42) dX12_thing_6 (by decide) (fun c6 => ?_) (fun c6 => ?_)
  · skip
    refine wp_bipush (pc := 42) (v := (-2)) dX12_thing_42 (by decide) ?_
    exact wp_iret (pc := 44) dX12_thing_44 rfl ⟨by simp only [f_thing, thingOk, decide_true, decide_false, decide_eq_true_eq, decide_eq_false_iff_not, c6, if_true, if_false, Bool.true_eq_false, Bool.false_eq_true, reduceIte, reduceCtorEq, Bool.not_true, Bool.not_false, true_and, and_true, and_false, false_and, or_true, true_or, or_false, false_or, not_true_eq_false, not_false_eq_true] <;> rfl, by simp only [f_thing, thingOk, decide_true, decide_false, decide_eq_true_eq, decide_eq_false_iff_not, c6, if_true, if_false, Bool.true_eq_false, Bool.false_eq_true, reduceIte, reduceCtorEq, Bool.not_true, Bool.not_false, true_and, and_true, and_false, false_and, or_true, true_or, or_false, false_or, not_true_eq_false, not_false_eq_true, hTx] <;> exact hM, hF⟩
  · skip
    refine wp_iload_n (pc := 9) dX12_thing_9 rfl rfl ?_
    refine wp_iconst (pc := 10) (v := 1) dX12_thing_10 (by decide) ?_
    refine wp_sipush (pc := 11) (v := 1000) dX12_thing_11 (by decide) ?_
    refine mp_callS (pc := 14) [_, _, _] dX12_thing_14 rfl cs_X12_153 rfl ⟨(Nat.le_of_ble_eq_true rfl), (Nat.le_of_ble_eq_true rfl)⟩ (Nat.le_of_ble_eq_true rfl) ⟨rfl, rfl⟩ (ms_in l G _ _ _ h) ?_
    refine wp_ifB_eq (pc := 17) (tgt := 42) dX12_thing_17 (by decide) (fun c17 => ?_) (fun c17 => ?_)
    · skip
      refine wp_bipush (pc := 42) (v := (-2)) dX12_thing_42 (by decide) ?_
      exact wp_iret (pc := 44) dX12_thing_44 rfl ⟨by simp only [f_thing, thingOk, decide_true, decide_false, decide_eq_true_eq, decide_eq_false_iff_not, c6, c17, if_true, if_false, Bool.true_eq_false, Bool.false_eq_true, reduceIte, reduceCtorEq, Bool.not_true, Bool.not_false, true_and, and_true, and_false, false_and, or_true, true_or, or_false, false_or, not_true_eq_false, not_false_eq_true] <;> rfl, by simp only [f_thing, thingOk, decide_true, decide_false, decide_eq_true_eq, decide_eq_false_iff_not, c6, c17, if_true, if_false, Bool.true_eq_false, Bool.false_eq_true, reduceIte, reduceCtorEq, Bool.not_true, Bool.not_false, true_and, and_true, and_false, false_and, or_true, true_or, or_false, false_or, not_true_eq_false, not_false_eq_true, hTx] <;> exact hM, hF⟩
    · skip
      refine wp_iload_n (pc := 20) dX12_thing_20 rfl rfl ?_
      refine wp_iconst (pc := 21) (v := 2) dX12_thing_21 (by decide) ?_
      refine wp_icmp_ne (pc := 22) (tgt := 38) dX12_thing_22 (by decide) (fun c22 => ?_) (fun c22 => ?_)
      · skip
        refine wp_iload_n (pc := 38) dX12_thing_38 rfl rfl ?_
        refine wp_if_eq (pc := 39) (tgt := 45) dX12_thing_39 (by decide) (fun c39 => ?_) (fun c39 => ?_)
        · skip
          refine wp_aload_n (pc := 45) dX12_thing_45 rfl rfl ?_
          refine wp_get (pc := 46) dX12_thing_46 fl_X12_167_13 hM.1 rfl ?_
          refine wp_bipush (pc := 49) (v := 20) dX12_thing_49 (by decide) ?_
          refine wp_icmp_ne (pc := 51) (tgt := 57) dX12_thing_51 (by decide) (fun c51 => ?_) (fun c51 => ?_)
          · have hk5 := eq20 hT2 (by rw [← hT]; exact c51)
            refine wp_aload_n (pc := 57) dX12_thing_57 rfl rfl ?_
            refine wp_get (pc := 58) dX12_thing_58 fl_X12_32_13 hM.1 rfl ?_
            refine wp_aload_n (pc := 61) dX12_thing_61 rfl rfl ?_
            refine wp_get (pc := 62) dX12_thing_62 fl_X12_167_13 hM.1 rfl ?_
            refine wp_iload_n (pc := 65) dX12_thing_65 rfl rfl ?_
            refine mp_iast (pc := 66) (k := 12) (i := N) dX12_thing_66 hM hF rfl ⟨hT, by omega, by decide⟩ (fun h hM hF => ?_)
            refine wp_aload_n (pc := 67) dX12_thing_67 rfl rfl ?_
            refine wp_get (pc := 68) dX12_thing_68 fl_X12_35_13 hM.1 rfl ?_
            refine wp_aload_n (pc := 71) dX12_thing_71 rfl rfl ?_
            refine wp_get (pc := 72) dX12_thing_72 fl_X12_167_13 hM.1 rfl ?_
            refine wp_iload_n (pc := 75) dX12_thing_75 rfl rfl ?_
            refine mp_iast (pc := 76) (k := 13) (i := N) dX12_thing_76 hM hF rfl ⟨hT, by omega, by decide⟩ (fun h hM hF => ?_)
            refine wp_aload_n (pc := 77) dX12_thing_77 rfl rfl ?_
            refine wp_get (pc := 78) dX12_thing_78 fl_X12_38_13 hM.1 rfl ?_
            refine wp_aload_n (pc := 81) dX12_thing_81 rfl rfl ?_
            refine wp_get (pc := 82) dX12_thing_82 fl_X12_167_13 hM.1 rfl ?_
            refine wp_iload_n (pc := 85) dX12_thing_85 rfl rfl ?_
            refine mp_iast (pc := 86) (k := 14) (i := N) dX12_thing_86 hM hF rfl ⟨hT, by omega, by decide⟩ (fun h hM hF => ?_)
            refine wp_aload_n (pc := 87) dX12_thing_87 rfl rfl ?_
            refine wp_get (pc := 88) dX12_thing_88 fl_X12_41_13 hM.1 rfl ?_
            refine wp_aload_n (pc := 91) dX12_thing_91 rfl rfl ?_
            refine wp_get (pc := 92) dX12_thing_92 fl_X12_167_13 hM.1 rfl ?_
            refine wp_iconst (pc := 95) (v := (-1)) dX12_thing_95 (by decide) ?_
            refine mp_iast (pc := 96) (k := 15) (i := N) dX12_thing_96 hM hF rfl ⟨hT, by omega, by decide⟩ (fun h hM hF => ?_)
            refine wp_aload_n (pc := 97) dX12_thing_97 rfl rfl ?_
            refine wp_dup (pc := 98) dX12_thing_98 rfl ?_
            refine wp_get (pc := 99) dX12_thing_99 fl_X12_167_13 hM.1 rfl ?_
            refine wp_iconst (pc := 102) (v := 1) dX12_thing_102 (by decide) ?_
            refine wp_iadd (pc := 103) dX12_thing_103 ?_
            refine mp_putS (pc := 104) dX12_thing_104 fl_X12_167_13 hM hF rfl rfl (by decide) rfl (fun h hM hF => ?_)
            refine wp_aload_n (pc := 107) dX12_thing_107 rfl rfl ?_
            refine wp_get (pc := 108) dX12_thing_108 fl_X12_167_13 hM.1 rfl ?_
            refine wp_iconst (pc := 111) (v := 1) dX12_thing_111 (by decide) ?_
            refine wp_isub (pc := 112) dX12_thing_112 ?_
            exact wp_iret (pc := 113) dX12_thing_113 rfl ⟨by simp only [f_thing, thingOk, decide_true, decide_false, decide_eq_true_eq, decide_eq_false_iff_not, c6, c17, eq_false c22, eq_true c39, eq_false c51, if_true, if_false, Bool.true_eq_false, Bool.false_eq_true, reduceIte, reduceCtorEq, Bool.not_true, Bool.not_false, true_and, and_true, and_false, false_and, or_true, true_or, or_false, false_or, not_true_eq_false, not_false_eq_true] <;> rfl, by simp only [f_thing, thingOk, decide_true, decide_false, decide_eq_true_eq, decide_eq_false_iff_not, c6, c17, eq_false c22, eq_true c39, eq_false c51, if_true, if_false, Bool.true_eq_false, Bool.false_eq_true, reduceIte, reduceCtorEq, Bool.not_true, Bool.not_false, true_and, and_true, and_false, false_and, or_true, true_or, or_false, false_or, not_true_eq_false, not_false_eq_true, hTx] <;> exact hM, hF⟩
          · skip
            refine wp_bipush (pc := 54) (v := (-4)) dX12_thing_54 (by decide) ?_
            exact wp_iret (pc := 56) dX12_thing_56 rfl ⟨by simp only [f_thing, thingOk, decide_true, decide_false, decide_eq_true_eq, decide_eq_false_iff_not, c6, c17, eq_false c22, eq_true c39, eq_true c51, if_true, if_false, Bool.true_eq_false, Bool.false_eq_true, reduceIte, reduceCtorEq, Bool.not_true, Bool.not_false, true_and, and_true, and_false, false_and, or_true, true_or, or_false, false_or, not_true_eq_false, not_false_eq_true] <;> rfl, by simp only [f_thing, thingOk, decide_true, decide_false, decide_eq_true_eq, decide_eq_false_iff_not, c6, c17, eq_false c22, eq_true c39, eq_true c51, if_true, if_false, Bool.true_eq_false, Bool.false_eq_true, reduceIte, reduceCtorEq, Bool.not_true, Bool.not_false, true_and, and_true, and_false, false_and, or_true, true_or, or_false, false_or, not_true_eq_false, not_false_eq_true, hTx] <;> exact hM, hF⟩
        · skip
          refine wp_bipush (pc := 42) (v := (-2)) dX12_thing_42 (by decide) ?_
          exact wp_iret (pc := 44) dX12_thing_44 rfl ⟨by simp only [f_thing, thingOk, decide_true, decide_false, decide_eq_true_eq, decide_eq_false_iff_not, c6, c17, eq_false c22, eq_false c39, if_true, if_false, Bool.true_eq_false, Bool.false_eq_true, reduceIte, reduceCtorEq, Bool.not_true, Bool.not_false, true_and, and_true, and_false, false_and, or_true, true_or, or_false, false_or, not_true_eq_false, not_false_eq_true] <;> rfl, by simp only [f_thing, thingOk, decide_true, decide_false, decide_eq_true_eq, decide_eq_false_iff_not, c6, c17, eq_false c22, eq_false c39, if_true, if_false, Bool.true_eq_false, Bool.false_eq_true, reduceIte, reduceCtorEq, Bool.not_true, Bool.not_false, true_and, and_true, and_false, false_and, or_true, true_or, or_false, false_or, not_true_eq_false, not_false_eq_true, hTx] <;> exact hM, hF⟩
      · skip
        refine wp_iload_n (pc := 25) dX12_thing_25 rfl rfl ?_
        refine wp_iconst (pc := 26) (v := 1) dX12_thing_26 (by decide) ?_
        refine wp_bipush (pc := 27) (v := 100) dX12_thing_27 (by decide) ?_
        refine mp_callS (pc := 29) [_, _, _] dX12_thing_29 rfl cs_X12_153 rfl ⟨(Nat.le_of_ble_eq_true rfl), (Nat.le_of_ble_eq_true rfl)⟩ (Nat.le_of_ble_eq_true rfl) ⟨rfl, rfl⟩ (ms_in l G _ _ _ h) ?_
        refine wp_ifB_eq (pc := 32) (tgt := 42) dX12_thing_32 (by decide) (fun c32 => ?_) (fun c32 => ?_)
        · skip
          refine wp_bipush (pc := 42) (v := (-2)) dX12_thing_42 (by decide) ?_
          exact wp_iret (pc := 44) dX12_thing_44 rfl ⟨by simp only [f_thing, thingOk, decide_true, decide_false, decide_eq_true_eq, decide_eq_false_iff_not, c6, c17, eq_true c22, c32, if_true, if_false, Bool.true_eq_false, Bool.false_eq_true, reduceIte, reduceCtorEq, Bool.not_true, Bool.not_false, true_and, and_true, and_false, false_and, or_true, true_or, or_false, false_or, not_true_eq_false, not_false_eq_true] <;> rfl, by simp only [f_thing, thingOk, decide_true, decide_false, decide_eq_true_eq, decide_eq_false_iff_not, c6, c17, eq_true c22, c32, if_true, if_false, Bool.true_eq_false, Bool.false_eq_true, reduceIte, reduceCtorEq, Bool.not_true, Bool.not_false, true_and, and_true, and_false, false_and, or_true, true_or, or_false, false_or, not_true_eq_false, not_false_eq_true, hTx] <;> exact hM, hF⟩
        · skip
          refine wp_goto (pc := 35) (tgt := 45) dX12_thing_35 (by decide) ?_
          refine wp_aload_n (pc := 45) dX12_thing_45 rfl rfl ?_
          refine wp_get (pc := 46) dX12_thing_46 fl_X12_167_13 hM.1 rfl ?_
          refine wp_bipush (pc := 49) (v := 20) dX12_thing_49 (by decide) ?_
          refine wp_icmp_ne (pc := 51) (tgt := 57) dX12_thing_51 (by decide) (fun c51 => ?_) (fun c51 => ?_)
          · have hk5 := eq20 hT2 (by rw [← hT]; exact c51)
            refine wp_aload_n (pc := 57) dX12_thing_57 rfl rfl ?_
            refine wp_get (pc := 58) dX12_thing_58 fl_X12_32_13 hM.1 rfl ?_
            refine wp_aload_n (pc := 61) dX12_thing_61 rfl rfl ?_
            refine wp_get (pc := 62) dX12_thing_62 fl_X12_167_13 hM.1 rfl ?_
            refine wp_iload_n (pc := 65) dX12_thing_65 rfl rfl ?_
            refine mp_iast (pc := 66) (k := 12) (i := N) dX12_thing_66 hM hF rfl ⟨hT, by omega, by decide⟩ (fun h hM hF => ?_)
            refine wp_aload_n (pc := 67) dX12_thing_67 rfl rfl ?_
            refine wp_get (pc := 68) dX12_thing_68 fl_X12_35_13 hM.1 rfl ?_
            refine wp_aload_n (pc := 71) dX12_thing_71 rfl rfl ?_
            refine wp_get (pc := 72) dX12_thing_72 fl_X12_167_13 hM.1 rfl ?_
            refine wp_iload_n (pc := 75) dX12_thing_75 rfl rfl ?_
            refine mp_iast (pc := 76) (k := 13) (i := N) dX12_thing_76 hM hF rfl ⟨hT, by omega, by decide⟩ (fun h hM hF => ?_)
            refine wp_aload_n (pc := 77) dX12_thing_77 rfl rfl ?_
            refine wp_get (pc := 78) dX12_thing_78 fl_X12_38_13 hM.1 rfl ?_
            refine wp_aload_n (pc := 81) dX12_thing_81 rfl rfl ?_
            refine wp_get (pc := 82) dX12_thing_82 fl_X12_167_13 hM.1 rfl ?_
            refine wp_iload_n (pc := 85) dX12_thing_85 rfl rfl ?_
            refine mp_iast (pc := 86) (k := 14) (i := N) dX12_thing_86 hM hF rfl ⟨hT, by omega, by decide⟩ (fun h hM hF => ?_)
            refine wp_aload_n (pc := 87) dX12_thing_87 rfl rfl ?_
            refine wp_get (pc := 88) dX12_thing_88 fl_X12_41_13 hM.1 rfl ?_
            refine wp_aload_n (pc := 91) dX12_thing_91 rfl rfl ?_
            refine wp_get (pc := 92) dX12_thing_92 fl_X12_167_13 hM.1 rfl ?_
            refine wp_iconst (pc := 95) (v := (-1)) dX12_thing_95 (by decide) ?_
            refine mp_iast (pc := 96) (k := 15) (i := N) dX12_thing_96 hM hF rfl ⟨hT, by omega, by decide⟩ (fun h hM hF => ?_)
            refine wp_aload_n (pc := 97) dX12_thing_97 rfl rfl ?_
            refine wp_dup (pc := 98) dX12_thing_98 rfl ?_
            refine wp_get (pc := 99) dX12_thing_99 fl_X12_167_13 hM.1 rfl ?_
            refine wp_iconst (pc := 102) (v := 1) dX12_thing_102 (by decide) ?_
            refine wp_iadd (pc := 103) dX12_thing_103 ?_
            refine mp_putS (pc := 104) dX12_thing_104 fl_X12_167_13 hM hF rfl rfl (by decide) rfl (fun h hM hF => ?_)
            refine wp_aload_n (pc := 107) dX12_thing_107 rfl rfl ?_
            refine wp_get (pc := 108) dX12_thing_108 fl_X12_167_13 hM.1 rfl ?_
            refine wp_iconst (pc := 111) (v := 1) dX12_thing_111 (by decide) ?_
            refine wp_isub (pc := 112) dX12_thing_112 ?_
            exact wp_iret (pc := 113) dX12_thing_113 rfl ⟨by simp only [f_thing, thingOk, decide_true, decide_false, decide_eq_true_eq, decide_eq_false_iff_not, c6, c17, eq_true c22, c32, eq_false c51, if_true, if_false, Bool.true_eq_false, Bool.false_eq_true, reduceIte, reduceCtorEq, Bool.not_true, Bool.not_false, true_and, and_true, and_false, false_and, or_true, true_or, or_false, false_or, not_true_eq_false, not_false_eq_true] <;> rfl, by simp only [f_thing, thingOk, decide_true, decide_false, decide_eq_true_eq, decide_eq_false_iff_not, c6, c17, eq_true c22, c32, eq_false c51, if_true, if_false, Bool.true_eq_false, Bool.false_eq_true, reduceIte, reduceCtorEq, Bool.not_true, Bool.not_false, true_and, and_true, and_false, false_and, or_true, true_or, or_false, false_or, not_true_eq_false, not_false_eq_true, hTx] <;> exact hM, hF⟩
          · skip
            refine wp_bipush (pc := 54) (v := (-4)) dX12_thing_54 (by decide) ?_
            exact wp_iret (pc := 56) dX12_thing_56 rfl ⟨by simp only [f_thing, thingOk, decide_true, decide_false, decide_eq_true_eq, decide_eq_false_iff_not, c6, c17, eq_true c22, c32, eq_true c51, if_true, if_false, Bool.true_eq_false, Bool.false_eq_true, reduceIte, reduceCtorEq, Bool.not_true, Bool.not_false, true_and, and_true, and_false, false_and, or_true, true_or, or_false, false_or, not_true_eq_false, not_false_eq_true] <;> rfl, by simp only [f_thing, thingOk, decide_true, decide_false, decide_eq_true_eq, decide_eq_false_iff_not, c6, c17, eq_true c22, c32, eq_true c51, if_true, if_false, Bool.true_eq_false, Bool.false_eq_true, reduceIte, reduceCtorEq, Bool.not_true, Bool.not_false, true_and, and_true, and_false, false_and, or_true, true_or, or_false, false_or, not_true_eq_false, not_false_eq_true, hTx] <;> exact hM, hF⟩
theorem ms_store    : MSp l G x am mX12_store [] M (some (.int (f_store M).1)) (f_store M).2 := by
  refine MSp.intro (lv := [_]) (by decide) rfl (Nat.le_of_ble_eq_true rfl) (fun h0 h hM hF => ?_)
  refine wp_aload_n (pc := 0) dX12_store_0 rfl rfl ?_
  refine wp_get (pc := 1) dX12_store_1 fl_X12_170_13 hM.1 rfl ?_
  refine wp_bipush (pc := 4) (v := 6) dX12_store_4 (by decide) ?_
  refine wp_icmp_ne (pc := 6) (tgt := 12) dX12_store_6 (by decide) (fun c6 => ?_) (fun c6 => ?_)
  · skip
    refine wp_aload_n (pc := 12) dX12_store_12 rfl rfl ?_
    refine wp_dup (pc := 13) dX12_store_13 rfl ?_
    refine wp_get (pc := 14) dX12_store_14 fl_X12_170_13 hM.1 rfl ?_
    refine wp_iconst (pc := 17) (v := 1) dX12_store_17 (by decide) ?_
    refine wp_iadd (pc := 18) dX12_store_18 ?_
    refine mp_putS (pc := 19) dX12_store_19 fl_X12_170_13 hM hF rfl rfl (by decide) rfl (fun h hM hF => ?_)
    refine wp_aload_n (pc := 22) dX12_store_22 rfl rfl ?_
    refine wp_get (pc := 23) dX12_store_23 fl_X12_170_13 hM.1 rfl ?_
    refine wp_iconst (pc := 26) (v := 1) dX12_store_26 (by decide) ?_
    refine wp_isub (pc := 27) dX12_store_27 ?_
    exact wp_iret (pc := 28) dX12_store_28 rfl ⟨by simp only [f_store, eq_false c6, if_true, if_false, Bool.true_eq_false, Bool.false_eq_true, reduceIte, reduceCtorEq, Bool.not_true, Bool.not_false, true_and, and_true, and_false, false_and, or_true, true_or, or_false, false_or, not_true_eq_false, not_false_eq_true] <;> rfl, by simp only [f_store, eq_false c6, if_true, if_false, Bool.true_eq_false, Bool.false_eq_true, reduceIte, reduceCtorEq, Bool.not_true, Bool.not_false, true_and, and_true, and_false, false_and, or_true, true_or, or_false, false_or, not_true_eq_false, not_false_eq_true] <;> exact hM, hF⟩
  · skip
    refine wp_bipush (pc := 9) (v := (-4)) dX12_store_9 (by decide) ?_
    exact wp_iret (pc := 11) dX12_store_11 rfl ⟨by simp only [f_store, eq_true c6, if_true, if_false, Bool.true_eq_false, Bool.false_eq_true, reduceIte, reduceCtorEq, Bool.not_true, Bool.not_false, true_and, and_true, and_false, false_and, or_true, true_or, or_false, false_or, not_true_eq_false, not_false_eq_true] <;> rfl, by simp only [f_store, eq_true c6, if_true, if_false, Bool.true_eq_false, Bool.false_eq_true, reduceIte, reduceCtorEq, Bool.not_true, Bool.not_false, true_and, and_true, and_false, false_and, or_true, true_or, or_false, false_or, not_true_eq_false, not_false_eq_true] <;> exact hM, hF⟩
theorem ms_tick (n : Int32)   : MSp l G x am mX12_tick [.int n] M (some (.int (f_tick M n).1)) (f_tick M n).2 := by
  refine MSp.intro (lv := [_, _]) (by decide) rfl (Nat.le_of_ble_eq_true rfl) (fun h0 h hM hF => ?_)
  refine wp_iload_n (pc := 0) dX12_tick_0 rfl rfl ?_
  refine wp_iconst (pc := 1) (v := 0) dX12_tick_1 (by decide) ?_
  refine wp_ldc (pc := 2) dX12_tick_2 w6_38 ?_
  refine mp_callS (pc := 4) [_, _, _] dX12_tick_4 rfl cs_X12_153 rfl ⟨(Nat.le_of_ble_eq_true rfl), (Nat.le_of_ble_eq_true rfl)⟩ (Nat.le_of_ble_eq_true rfl) ⟨rfl, rfl⟩ (ms_in l G _ _ _ h) ?_
  refine wp_ifB_ne (pc := 7) (tgt := 13) dX12_tick_7 (by decide) (fun c7 => ?_) (fun c7 => ?_)
  · skip
    refine wp_aload_n (pc := 13) dX12_tick_13 rfl rfl ?_
    refine wp_get (pc := 14) dX12_tick_14 fl_X12_174_13 hM.1 rfl ?_
    refine wp_iload_n (pc := 17) dX12_tick_17 rfl rfl ?_
    refine wp_iadd (pc := 18) dX12_tick_18 ?_
    refine wp_ldc (pc := 19) dX12_tick_19 w6_39 ?_
    refine wp_icmp_le (pc := 21) (tgt := 27) dX12_tick_21 (by decide) (fun c21 => ?_) (fun c21 => ?_)
    · skip
      refine wp_aload_n (pc := 27) dX12_tick_27 rfl rfl ?_
      refine wp_dup (pc := 28) dX12_tick_28 rfl ?_
      refine wp_get (pc := 29) dX12_tick_29 fl_X12_174_13 hM.1 rfl ?_
      refine wp_iload_n (pc := 32) dX12_tick_32 rfl rfl ?_
      refine wp_iadd (pc := 33) dX12_tick_33 ?_
      refine mp_putS (pc := 34) dX12_tick_34 fl_X12_174_13 hM hF rfl rfl (by decide) rfl (fun h hM hF => ?_)
      refine wp_aload_n (pc := 37) dX12_tick_37 rfl rfl ?_
      refine wp_get (pc := 38) dX12_tick_38 fl_X12_174_13 hM.1 rfl ?_
      exact wp_iret (pc := 41) dX12_tick_41 rfl ⟨by simp only [f_tick, c7, eq_true c21, if_true, if_false, Bool.true_eq_false, Bool.false_eq_true, reduceIte, reduceCtorEq, Bool.not_true, Bool.not_false, true_and, and_true, and_false, false_and, or_true, true_or, or_false, false_or, not_true_eq_false, not_false_eq_true] <;> rfl, by simp only [f_tick, c7, eq_true c21, if_true, if_false, Bool.true_eq_false, Bool.false_eq_true, reduceIte, reduceCtorEq, Bool.not_true, Bool.not_false, true_and, and_true, and_false, false_and, or_true, true_or, or_false, false_or, not_true_eq_false, not_false_eq_true] <;> exact hM, hF⟩
    · skip
      refine wp_bipush (pc := 24) (v := (-4)) dX12_tick_24 (by decide) ?_
      exact wp_iret (pc := 26) dX12_tick_26 rfl ⟨by simp only [f_tick, c7, eq_false c21, if_true, if_false, Bool.true_eq_false, Bool.false_eq_true, reduceIte, reduceCtorEq, Bool.not_true, Bool.not_false, true_and, and_true, and_false, false_and, or_true, true_or, or_false, false_or, not_true_eq_false, not_false_eq_true] <;> rfl, by simp only [f_tick, c7, eq_false c21, if_true, if_false, Bool.true_eq_false, Bool.false_eq_true, reduceIte, reduceCtorEq, Bool.not_true, Bool.not_false, true_and, and_true, and_false, false_and, or_true, true_or, or_false, false_or, not_true_eq_false, not_false_eq_true] <;> exact hM, hF⟩
  · skip
    refine wp_bipush (pc := 10) (v := (-2)) dX12_tick_10 (by decide) ?_
    exact wp_iret (pc := 12) dX12_tick_12 rfl ⟨by simp only [f_tick, c7, if_true, if_false, Bool.true_eq_false, Bool.false_eq_true, reduceIte, reduceCtorEq, Bool.not_true, Bool.not_false, true_and, and_true, and_false, false_and, or_true, true_or, or_false, false_or, not_true_eq_false, not_false_eq_true] <;> rfl, by simp only [f_tick, c7, if_true, if_false, Bool.true_eq_false, Bool.false_eq_true, reduceIte, reduceCtorEq, Bool.not_true, Bool.not_false, true_and, and_true, and_false, false_and, or_true, true_or, or_false, false_or, not_true_eq_false, not_false_eq_true] <;> exact hM, hF⟩
theorem kc_k (l : Launch) (G : WG) (x : Nat) (am : Nat → Nat) (M : MS) : True := trivial
theorem ms_kClock  (k : Nat) (hk : k < 5) : MSp l G x am mX12_kClock [.int (nI k)] M (some (.long (kClk M k))) M := by
  refine MSp.intro (lv := [_, _]) (by decide) rfl (Nat.le_of_ble_eq_true rfl) (fun h0 h hM hF => ?_)
  refine wp_aload_n (pc := 0) dX12_kClock_0 rfl rfl ?_
  refine wp_get (pc := 1) dX12_kClock_1 fl_X12_7_13 hM.1 rfl ?_
  refine wp_iload_n (pc := 4) dX12_kClock_4 rfl rfl ?_
  refine wp_iald (pc := 5) (i := k) dX12_kClock_5 (hM.i 3 rfl) ⟨rfl, by omega, by decide⟩ ?_
  refine wp_i2l (pc := 6) dX12_kClock_6 ?_
  refine wp_aload_n (pc := 7) dX12_kClock_7 rfl rfl ?_
  refine wp_get (pc := 8) dX12_kClock_8 fl_X12_174_13 hM.1 rfl ?_
  refine wp_i2l (pc := 11) dX12_kClock_11 ?_
  refine wp_aload_n (pc := 12) dX12_kClock_12 rfl rfl ?_
  refine wp_get (pc := 13) dX12_kClock_13 fl_X12_13_13 hM.1 rfl ?_
  refine wp_iload_n (pc := 16) dX12_kClock_16 rfl rfl ?_
  refine wp_iald (pc := 17) (i := k) dX12_kClock_17 (hM.i 4 rfl) ⟨rfl, by omega, by decide⟩ ?_
  refine wp_i2l (pc := 18) dX12_kClock_18 ?_
  refine wp_lmul (pc := 19) dX12_kClock_19 ?_
  refine wp_ldc2_w (pc := 20) dX12_kClock_20 w6_52 ?_
  refine wp_ldiv (pc := 23) dX12_kClock_23 (by decide) ?_
  refine wp_ladd (pc := 24) dX12_kClock_24 ?_
  exact wp_lret (pc := 25) dX12_kClock_25 rfl ⟨rfl, hM, hF⟩
theorem ms_wClock  (k : Nat) (hk : k < 20) : MSp l G x am mX12_wClock [.int (nI k)] M (some (.long (wClk M k))) M := by
  refine MSp.intro (lv := [_, _]) (by decide) rfl (Nat.le_of_ble_eq_true rfl) (fun h0 h hM hF => ?_)
  refine wp_aload_n (pc := 0) dX12_wClock_0 rfl rfl ?_
  refine wp_get (pc := 1) dX12_wClock_1 fl_X12_20_13 hM.1 rfl ?_
  refine wp_iload_n (pc := 4) dX12_wClock_4 rfl rfl ?_
  refine wp_iald (pc := 5) (i := k) dX12_wClock_5 (hM.i 7 rfl) ⟨rfl, by omega, by decide⟩ ?_
  refine wp_i2l (pc := 6) dX12_wClock_6 ?_
  refine wp_aload_n (pc := 7) dX12_wClock_7 rfl rfl ?_
  refine wp_get (pc := 8) dX12_wClock_8 fl_X12_174_13 hM.1 rfl ?_
  refine wp_i2l (pc := 11) dX12_wClock_11 ?_
  refine wp_aload_n (pc := 12) dX12_wClock_12 rfl rfl ?_
  refine wp_get (pc := 13) dX12_wClock_13 fl_X12_23_13 hM.1 rfl ?_
  refine wp_iload_n (pc := 16) dX12_wClock_16 rfl rfl ?_
  refine wp_iald (pc := 17) (i := k) dX12_wClock_17 (hM.i 8 rfl) ⟨rfl, by omega, by decide⟩ ?_
  refine wp_i2l (pc := 18) dX12_wClock_18 ?_
  refine wp_lmul (pc := 19) dX12_wClock_19 ?_
  refine wp_ldc2_w (pc := 20) dX12_wClock_20 w6_52 ?_
  refine wp_ldiv (pc := 23) dX12_wClock_23 (by decide) ?_
  refine wp_ladd (pc := 24) dX12_wClock_24 ?_
  exact wp_lret (pc := 25) dX12_wClock_25 rfl ⟨rfl, hM, hF⟩
theorem ms_long0  (t : Nat) (ht : t < 20) (hd0 : ¬ 1000 - M.1 0 = 0) : MSp l G x am mX12_long0 [.int (nI t)] M (some (.int (lng M t))) M := by
  refine MSp.intro (lv := [_, _, _, _]) (by decide) rfl (Nat.le_of_ble_eq_true rfl) (fun h0 h hM hF => ?_)
  refine wp_aload_n (pc := 0) dX12_long0_0 rfl rfl ?_
  refine wp_get (pc := 1) dX12_long0_1 fl_X12_35_13 hM.1 rfl ?_
  refine wp_iload_n (pc := 4) dX12_long0_4 rfl rfl ?_
  refine wp_iald (pc := 5) (i := t) dX12_long0_5 (hM.i 13 rfl) ⟨rfl, by omega, by decide⟩ ?_
  refine wp_sipush (pc := 6) (v := 1000) dX12_long0_6 (by decide) ?_
  refine wp_aload_n (pc := 9) dX12_long0_9 rfl rfl ?_
  refine wp_get (pc := 10) dX12_long0_10 fl_X12_148_13 hM.1 rfl ?_
  refine wp_iadd (pc := 13) dX12_long0_13 ?_
  refine wp_imul (pc := 14) dX12_long0_14 ?_
  refine wp_istore_n (pc := 15) (lv' := [_, _, _, _]) dX12_long0_15 rfl (Nat.le_of_ble_eq_true rfl) rfl rfl ?_
  refine wp_sipush (pc := 16) (v := 1000) dX12_long0_16 (by decide) ?_
  refine wp_aload_n (pc := 19) dX12_long0_19 rfl rfl ?_
  refine wp_get (pc := 20) dX12_long0_20 fl_X12_148_13 hM.1 rfl ?_
  refine wp_isub (pc := 23) dX12_long0_23 ?_
  refine wp_istore_n (pc := 24) (lv' := [_, _, _, _]) dX12_long0_24 rfl (Nat.le_of_ble_eq_true rfl) rfl rfl ?_
  refine wp_iload_n (pc := 25) dX12_long0_25 rfl rfl ?_
  refine wp_iload_n (pc := 26) dX12_long0_26 rfl rfl ?_
  refine wp_iadd (pc := 27) dX12_long0_27 ?_
  refine wp_iconst (pc := 28) (v := 1) dX12_long0_28 (by decide) ?_
  refine wp_isub (pc := 29) dX12_long0_29 ?_
  refine wp_iload_n (pc := 30) dX12_long0_30 rfl rfl ?_
  refine wp_idiv (pc := 31) dX12_long0_31 hd0 ?_
  refine wp_iconst (pc := 32) (v := 2) dX12_long0_32 (by decide) ?_
  refine wp_iadd (pc := 33) dX12_long0_33 ?_
  exact wp_iret (pc := 34) dX12_long0_34 rfl ⟨rfl, hM, hF⟩
theorem ms_clock (what : Int32) (who : Int32)  {K : Nat} (hK : M.1 2 = nI K) (hK5 : K ≤ 5) {W : Nat} (hW : M.1 6 = nI W) (hW2 : W ≤ 20) : MSp l G x am mX12_clock [.int what, .int who] M (some (.long (f_clock M what who))) M := by
  refine MSp.intro (lv := [_, _, _]) (by decide) rfl (Nat.le_of_ble_eq_true rfl) (fun h0 h hM hF => ?_)
  have hKx : nx (M.1 2) = K := by rw [hK]; exact nx_nI (by omega)
  have hWx : nx (M.1 6) = W := by rw [hW]; exact nx_nI (by omega)
  refine wp_iload_n (pc := 0) dX12_clock_0 rfl rfl ?_
  refine wp_if_ne (pc := 1) (tgt := 18) dX12_clock_1 (by decide) (fun c1 => ?_) (fun c1 => ?_)
  · skip
    refine wp_iload_n (pc := 18) dX12_clock_18 rfl rfl ?_
    refine wp_iconst (pc := 19) (v := 1) dX12_clock_19 (by decide) ?_
    refine wp_icmp_ne (pc := 20) (tgt := 39) dX12_clock_20 (by decide) (fun c20 => ?_) (fun c20 => ?_)
    · skip
      refine wp_ldc2_w (pc := 39) dX12_clock_39 w6_61 ?_
      exact wp_lret (pc := 42) dX12_clock_42 rfl ⟨by simp only [f_clock, hKx, hWx, eq_false c1, eq_false c20, if_true, if_false, Bool.true_eq_false, Bool.false_eq_true, reduceIte, reduceCtorEq, Bool.not_true, Bool.not_false, true_and, and_true, and_false, false_and, or_true, true_or, or_false, false_or, not_true_eq_false, not_false_eq_true] <;> (try rfl) <;> (rw [nx_nI (show j < 2 ^ 31 by omega)]), hM, hF⟩
    · skip
      refine wp_aload_n (pc := 23) dX12_clock_23 rfl rfl ?_
      refine wp_iload_n (pc := 24) dX12_clock_24 rfl rfl ?_
      refine mp_call (pc := 25) [_] dX12_clock_25 rfl cv_X12_191_13 rfl ⟨(Nat.le_of_ble_eq_true rfl), (Nat.le_of_ble_eq_true rfl)⟩ (Nat.le_of_ble_eq_true rfl) ⟨rfl, rfl⟩ (ms_isWorker l G x am _ _ (by exact hW) hW2) hM hF (fun h hM hF => ?_)
      refine wp_ifB_eq (pc := 28) (tgt := 39) dX12_clock_28 (by decide) (fun c28 => ?_) (fun c28 => ?_)
      · skip
        refine wp_ldc2_w (pc := 39) dX12_clock_39 w6_61 ?_
        exact wp_lret (pc := 42) dX12_clock_42 rfl ⟨by simp only [f_clock, hKx, hWx, eq_false c1, eq_true c20, c28, if_true, if_false, Bool.true_eq_false, Bool.false_eq_true, reduceIte, reduceCtorEq, Bool.not_true, Bool.not_false, true_and, and_true, and_false, false_and, or_true, true_or, or_false, false_or, not_true_eq_false, not_false_eq_true] <;> (try rfl) <;> (rw [nx_nI (show j < 2 ^ 31 by omega)]), hM, hF⟩
      · obtain ⟨j, hj, rfl⟩ := isIx_t c28 (by omega)
        refine wp_aload_n (pc := 31) dX12_clock_31 rfl rfl ?_
        refine wp_iload_n (pc := 32) dX12_clock_32 rfl rfl ?_
        refine mp_call (pc := 33) [_] dX12_clock_33 rfl cv_X12_194_13 rfl ⟨(Nat.le_of_ble_eq_true rfl), (Nat.le_of_ble_eq_true rfl)⟩ (Nat.le_of_ble_eq_true rfl) ⟨rfl, rfl⟩ (ms_wClock l G x am _ _ (by omega)) hM hF (fun h hM hF => ?_)
        refine wp_goto (pc := 36) (tgt := 42) dX12_clock_36 (by decide) ?_
        exact wp_lret (pc := 42) dX12_clock_42 rfl ⟨by simp only [f_clock, hKx, hWx, eq_false c1, eq_true c20, c28, if_true, if_false, Bool.true_eq_false, Bool.false_eq_true, reduceIte, reduceCtorEq, Bool.not_true, Bool.not_false, true_and, and_true, and_false, false_and, or_true, true_or, or_false, false_or, not_true_eq_false, not_false_eq_true] <;> (try rfl) <;> (rw [nx_nI (show j < 2 ^ 31 by omega)]), hM, hF⟩
  · skip
    refine wp_aload_n (pc := 4) dX12_clock_4 rfl rfl ?_
    refine wp_iload_n (pc := 5) dX12_clock_5 rfl rfl ?_
    refine mp_call (pc := 6) [_] dX12_clock_6 rfl cv_X12_183_13 rfl ⟨(Nat.le_of_ble_eq_true rfl), (Nat.le_of_ble_eq_true rfl)⟩ (Nat.le_of_ble_eq_true rfl) ⟨rfl, rfl⟩ (ms_isKeeper l G x am _ _ (by exact hK) hK5) hM hF (fun h hM hF => ?_)
    refine wp_ifB_eq (pc := 9) (tgt := 18) dX12_clock_9 (by decide) (fun c9 => ?_) (fun c9 => ?_)
    · skip
      refine wp_iload_n (pc := 18) dX12_clock_18 rfl rfl ?_
      refine wp_iconst (pc := 19) (v := 1) dX12_clock_19 (by decide) ?_
      refine wp_icmp_ne (pc := 20) (tgt := 39) dX12_clock_20 (by decide) (fun c20 => ?_) (fun c20 => ?_)
      · skip
        refine wp_ldc2_w (pc := 39) dX12_clock_39 w6_61 ?_
        exact wp_lret (pc := 42) dX12_clock_42 rfl ⟨by simp only [f_clock, hKx, hWx, eq_true c1, c9, eq_false c20, if_true, if_false, Bool.true_eq_false, Bool.false_eq_true, reduceIte, reduceCtorEq, Bool.not_true, Bool.not_false, true_and, and_true, and_false, false_and, or_true, true_or, or_false, false_or, not_true_eq_false, not_false_eq_true] <;> (try rfl) <;> (rw [nx_nI (show j < 2 ^ 31 by omega)]), hM, hF⟩
      · skip
        refine wp_aload_n (pc := 23) dX12_clock_23 rfl rfl ?_
        refine wp_iload_n (pc := 24) dX12_clock_24 rfl rfl ?_
        refine mp_call (pc := 25) [_] dX12_clock_25 rfl cv_X12_191_13 rfl ⟨(Nat.le_of_ble_eq_true rfl), (Nat.le_of_ble_eq_true rfl)⟩ (Nat.le_of_ble_eq_true rfl) ⟨rfl, rfl⟩ (ms_isWorker l G x am _ _ (by exact hW) hW2) hM hF (fun h hM hF => ?_)
        refine wp_ifB_eq (pc := 28) (tgt := 39) dX12_clock_28 (by decide) (fun c28 => ?_) (fun c28 => ?_)
        · skip
          refine wp_ldc2_w (pc := 39) dX12_clock_39 w6_61 ?_
          exact wp_lret (pc := 42) dX12_clock_42 rfl ⟨by simp only [f_clock, hKx, hWx, eq_true c1, c9, eq_true c20, c28, if_true, if_false, Bool.true_eq_false, Bool.false_eq_true, reduceIte, reduceCtorEq, Bool.not_true, Bool.not_false, true_and, and_true, and_false, false_and, or_true, true_or, or_false, false_or, not_true_eq_false, not_false_eq_true] <;> (try rfl) <;> (rw [nx_nI (show j < 2 ^ 31 by omega)]), hM, hF⟩
        · obtain ⟨j, hj, rfl⟩ := isIx_t c28 (by omega)
          refine wp_aload_n (pc := 31) dX12_clock_31 rfl rfl ?_
          refine wp_iload_n (pc := 32) dX12_clock_32 rfl rfl ?_
          refine mp_call (pc := 33) [_] dX12_clock_33 rfl cv_X12_194_13 rfl ⟨(Nat.le_of_ble_eq_true rfl), (Nat.le_of_ble_eq_true rfl)⟩ (Nat.le_of_ble_eq_true rfl) ⟨rfl, rfl⟩ (ms_wClock l G x am _ _ (by omega)) hM hF (fun h hM hF => ?_)
          refine wp_goto (pc := 36) (tgt := 42) dX12_clock_36 (by decide) ?_
          exact wp_lret (pc := 42) dX12_clock_42 rfl ⟨by simp only [f_clock, hKx, hWx, eq_true c1, c9, eq_true c20, c28, if_true, if_false, Bool.true_eq_false, Bool.false_eq_true, reduceIte, reduceCtorEq, Bool.not_true, Bool.not_false, true_and, and_true, and_false, false_and, or_true, true_or, or_false, false_or, not_true_eq_false, not_false_eq_true] <;> (try rfl) <;> (rw [nx_nI (show j < 2 ^ 31 by omega)]), hM, hF⟩
    · obtain ⟨j, hj, rfl⟩ := isIx_t c9 (by omega)
      refine wp_aload_n (pc := 12) dX12_clock_12 rfl rfl ?_
      refine wp_iload_n (pc := 13) dX12_clock_13 rfl rfl ?_
      refine mp_call (pc := 14) [_] dX12_clock_14 rfl cv_X12_187_13 rfl ⟨(Nat.le_of_ble_eq_true rfl), (Nat.le_of_ble_eq_true rfl)⟩ (Nat.le_of_ble_eq_true rfl) ⟨rfl, rfl⟩ (ms_kClock l G x am _ _ (by omega)) hM hF (fun h hM hF => ?_)
      exact wp_lret (pc := 17) dX12_clock_17 rfl ⟨by simp only [f_clock, hKx, hWx, eq_true c1, c9, if_true, if_false, Bool.true_eq_false, Bool.false_eq_true, reduceIte, reduceCtorEq, Bool.not_true, Bool.not_false, true_and, and_true, and_false, false_and, or_true, true_or, or_false, false_or, not_true_eq_false, not_false_eq_true] <;> (try rfl) <;> (rw [nx_nI (show j < 2 ^ 31 by omega)]), hM, hF⟩
theorem ms_awake {K : Nat} (hK : M.1 2 = nI K) (hK5 : K ≤ 5)  : MSp l G x am mX12_awake [] M (some (.int (awk M K))) (M) := by
  refine MSp.intro (lv := [_, _, _]) (by decide) rfl (Nat.le_of_ble_eq_true rfl) (fun h0 h hM hF => ?_)
  generalize hQ0 : (fun (w9 : Option Value) (h' : Hp) => w9 = (some (.int (awk M K))) ∧ InM x am (M) h' ∧ Fr x am h0 h') = Q0
  have loop : ∀ i, i ≤ K → ∀ h, InM x am (M) h → Fr x am h0 h → wp l G mX12_awake (zM G mX12_awake Q0) 4 [some (.ref x), some (.int (awk M i)), some (.int (nI i))] [] h 0 0 := by
    refine loopU _ K (fun i hi ih => ?_) ?_
    · intro h hM hF
      refine wp_iload_n (pc := 4) dX12_awake_4 rfl rfl ?_
      refine wp_aload_n (pc := 5) dX12_awake_5 rfl rfl ?_
      refine wp_get (pc := 6) dX12_awake_6 fl_X12_161_13 hM.1 rfl ?_
      refine wp_icmp_ge (pc := 9) (tgt := 35) dX12_awake_9 (by decide) (fun z => absurd z (by rw [hK]; exact nI_ge hi (by omega))) (fun _ => ?_)
      refine wp_iload_n (pc := 12) dX12_awake_12 rfl rfl ?_
      refine wp_aload_n (pc := 13) dX12_awake_13 rfl rfl ?_
      refine wp_get (pc := 14) dX12_awake_14 fl_X12_16_13 hM.1 rfl ?_
      refine wp_iload_n (pc := 17) dX12_awake_17 rfl rfl ?_
      refine wp_zald (pc := 18) (i := i) dX12_awake_18 (hM.z 5 rfl) ⟨rfl, by omega, by decide⟩ ?_
      refine wp_if_eq (pc := 19) (tgt := 26) dX12_awake_19 (by decide) (fun c19 => ?_) (fun c19 => ?_)
      · skip
        refine wp_iconst (pc := 26) (v := 0) dX12_awake_26 (by decide) ?_
        refine wp_iadd (pc := 27) dX12_awake_27 ?_
        refine wp_istore_n (pc := 28) (lv' := [_, _, _]) dX12_awake_28 rfl (Nat.le_of_ble_eq_true rfl) rfl rfl ?_
        refine wp_iinc (pc := 29) (v := _ + 1) (lv' := [_, _, _]) dX12_awake_29 rfl rfl rfl rfl ?_
        refine wp_goto (pc := 32) (tgt := 4) dX12_awake_32 (by decide) ?_
        exact wp_lv (ih h hM hF) (by simp [awk, nI_1, c19])
      · skip
        refine wp_iconst (pc := 22) (v := 1) dX12_awake_22 (by decide) ?_
        refine wp_goto (pc := 23) (tgt := 27) dX12_awake_23 (by decide) ?_
        refine wp_iadd (pc := 27) dX12_awake_27 ?_
        refine wp_istore_n (pc := 28) (lv' := [_, _, _]) dX12_awake_28 rfl (Nat.le_of_ble_eq_true rfl) rfl rfl ?_
        refine wp_iinc (pc := 29) (v := _ + 1) (lv' := [_, _, _]) dX12_awake_29 rfl rfl rfl rfl ?_
        refine wp_goto (pc := 32) (tgt := 4) dX12_awake_32 (by decide) ?_
        exact wp_lv (ih h hM hF) (by simp [awk, nI_1, c19])
    · intro h hM hF
      refine wp_iload_n (pc := 4) dX12_awake_4 rfl rfl ?_
      refine wp_aload_n (pc := 5) dX12_awake_5 rfl rfl ?_
      refine wp_get (pc := 6) dX12_awake_6 fl_X12_161_13 hM.1 rfl ?_
      refine wp_icmp_ge (pc := 9) (tgt := 35) dX12_awake_9 (by decide) (fun _ => ?_) (fun z => absurd (by rw [hK]; exact nI_le (Nat.le_refl _) (by omega)) z)
      refine wp_iload_n (pc := 35) dX12_awake_35 rfl rfl ?_
      exact wp_iret (pc := 36) dX12_awake_36 rfl (by rw [← hQ0]; exact ⟨rfl, hM, hF⟩)
  refine wp_iconst (pc := 0) (v := 0) dX12_awake_0 (by decide) ?_
  refine wp_istore_n (pc := 1) (lv' := [_, _, _]) dX12_awake_1 rfl (Nat.le_of_ble_eq_true rfl) rfl rfl ?_
  refine wp_iconst (pc := 2) (v := 0) dX12_awake_2 (by decide) ?_
  refine wp_istore_n (pc := 3) (lv' := [_, _, _]) dX12_awake_3 rfl (Nat.le_of_ble_eq_true rfl) rfl rfl ?_
  exact loop 0 (Nat.zero_le _) h hM hF
theorem ms_isMost   {K : Nat} (hK : M.1 2 = nI K) (hK5 : K ≤ 5) : MSp l G x am mX12_isMost [] M (some (.int (bi (isMst M)))) M := by
  refine MSp.intro (lv := [_]) (by decide) rfl (Nat.le_of_ble_eq_true rfl) (fun h0 h hM hF => ?_)
  have hKx : nx (M.1 2) = K := by rw [hK]; exact nx_nI (by omega)
  refine wp_iconst (pc := 0) (v := 2) dX12_isMost_0 (by decide) ?_
  refine wp_aload_n (pc := 1) dX12_isMost_1 rfl rfl ?_
  refine mp_call (pc := 2) [] dX12_isMost_2 rfl cv_X12_199_13 rfl ⟨(Nat.le_of_ble_eq_true rfl), (Nat.le_of_ble_eq_true rfl)⟩ (Nat.le_of_ble_eq_true rfl) ⟨rfl, rfl⟩ (ms_awake l G x am _ (by exact hK) hK5) hM hF (fun h hM hF => ?_)
  refine wp_imul (pc := 5) dX12_isMost_5 ?_
  refine wp_aload_n (pc := 6) dX12_isMost_6 rfl rfl ?_
  refine wp_get (pc := 7) dX12_isMost_7 fl_X12_161_13 hM.1 rfl ?_
  refine wp_icmp_le (pc := 10) (tgt := 17) dX12_isMost_10 (by decide) (fun c10 => ?_) (fun c10 => ?_)
  · skip
    refine wp_iconst (pc := 17) (v := 0) dX12_isMost_17 (by decide) ?_
    exact wp_zret (pc := 18) dX12_isMost_18 rfl (by decide) ⟨by simp only [isMst, hKx, eq_true c10, if_true, if_false, Bool.true_eq_false, Bool.false_eq_true, reduceIte, reduceCtorEq, Bool.not_true, Bool.not_false, true_and, and_true, and_false, false_and, or_true, true_or, or_false, false_or, not_true_eq_false, not_false_eq_true, bi] <;> rfl, hM, hF⟩
  · skip
    refine wp_iconst (pc := 13) (v := 1) dX12_isMost_13 (by decide) ?_
    refine wp_goto (pc := 14) (tgt := 18) dX12_isMost_14 (by decide) ?_
    exact wp_zret (pc := 18) dX12_isMost_18 rfl (by decide) ⟨by simp only [isMst, hKx, eq_false c10, if_true, if_false, Bool.true_eq_false, Bool.false_eq_true, reduceIte, reduceCtorEq, Bool.not_true, Bool.not_false, true_and, and_true, and_false, false_and, or_true, true_or, or_false, false_or, not_true_eq_false, not_false_eq_true, bi] <;> rfl, hM, hF⟩
end M1
