/-- what is known of the locals may be forgotten -/
def lvle : List (Option Value) → List (Option Value) → Prop
  | [], [] => True
  | none :: r, _ :: s => lvle r s
  | some v :: r, some w :: s => v = w ∧ lvle r s
  | _, _ => False
theorem lvle_get : ∀ (a b : List (Option Value)), lvle a b → a.length = b.length ∧ ∀ (i : Nat) (v : Value), a[i]? = some (some v) → b[i]? = some (some v)
  | [], [], _ => ⟨rfl, fun i v h => by simp at h⟩
  | none :: r, y :: s, h => by
    obtain ⟨h1, h2⟩ := lvle_get r s h
    refine ⟨by simp [h1], fun i v hv => ?_⟩
    cases i with
    | zero => simp at hv
    | succ i => simpa using h2 i v (by simpa using hv)
  | some v :: r, some w :: s, h => by
    obtain ⟨rfl, h⟩ := h
    obtain ⟨h1, h2⟩ := lvle_get r s h
    refine ⟨by simp [h1], fun i u hv => ?_⟩
    cases i with
    | zero => simpa using hv
    | succ i => simpa using h2 i u (by simpa using hv)
theorem wp_drop {l : Launch} {G : WG} {μ : MI} {Z : WZ} {pc : Nat} {lv lv' : List (Option Value)} {st : List Value} {h : Hp} {rc rs : Nat} (k : wp l G μ Z pc lv' st h rc rs) (e : lvle lv' lv) : wp l G μ Z pc lv st h rc rs := by
  obtain ⟨e1, e2⟩ := lvle_get _ _ e
  intro p e s m args below meth c C H locs cells slots ls hR hlo hc hs hl hn
  exact k p e s m args below meth c C H locs cells slots ls hR hlo hc hs ⟨by rw [e1]; exact hl.1, hl.2.1, fun i v hv => hl.2.2 i v (e2 i v hv)⟩ (by rw [e1]; exact hn)
section M3
variable (l : Launch) (G : WG) (x : Nat) (am : Nat → Nat) (M : MS)
theorem ms_lead (v : Int32) {K : Nat} (hK : M.1 2 = nI K) (hK5 : K ≤ 5) {N : Nat} (hT : M.1 11 = nI N) (hT2 : N ≤ 20) (hd0 : ¬ 1000 - M.1 0 = 0) (hg : ∀ t, t < N → ∃ g, g ≤ 20 ∧ M.2.1 21 t = nI g) : MSp l G x am mX12_lead [.int v] M (some (.int (f_lead M v).1)) ((f_lead M v).2) := by
  refine MSp.intro (lv := [_, _, _, _, _, _]) (by decide) rfl (Nat.le_of_ble_eq_true rfl) (fun h0 h hM hF => ?_)
  generalize hQ0 : (fun (w9 : Option Value) (h' : Hp) => w9 = (some (.int (f_lead M v).1)) ∧ InM x am ((f_lead M v).2) h' ∧ Fr x am h0 h') = Q0
  have hKx : nx (M.1 2) = K := by rw [hK]; exact nx_nI (by omega)
  have hTx : nx (M.1 11) = N := by rw [hT]; exact nx_nI (by omega)
  refine wp_aload_n (pc := 0) dX12_lead_0 rfl rfl ?_
  refine wp_iload_n (pc := 1) dX12_lead_1 rfl rfl ?_
  refine mp_call (pc := 2) [_] dX12_lead_2 rfl cv_X12_183_13 rfl ⟨(Nat.le_of_ble_eq_true rfl), (Nat.le_of_ble_eq_true rfl)⟩ (Nat.le_of_ble_eq_true rfl) ⟨rfl, rfl⟩ (ms_isKeeper l G x am _ _ (by exact hK) hK5) hM hF (fun h hM hF => ?_)
  refine wp_ifB_ne (pc := 5) (tgt := 11) dX12_lead_5 (by decide) (fun c5 => ?_) (fun c5 => ?_)
  · obtain ⟨j, hj, rfl⟩ := isIx_t c5 (by omega)
    have e1 : nx (nI j) = j := nx_nI (by omega)
    refine wp_aload_n (pc := 11) dX12_lead_11 rfl rfl ?_
    refine wp_get (pc := 12) dX12_lead_12 fl_X12_16_13 hM.1 rfl ?_
    refine wp_iload_n (pc := 15) dX12_lead_15 rfl rfl ?_
    refine wp_zald (pc := 16) (i := j) dX12_lead_16 (hM.z 5 rfl) ⟨rfl, by omega, by decide⟩ ?_
    refine wp_if_eq (pc := 17) (tgt := 27) dX12_lead_17 (by decide) (fun c17 => ?_) (fun c17 => ?_)
    · skip
      refine wp_bipush (pc := 27) (v := (-3)) dX12_lead_27 (by decide) ?_
      exact wp_iret (pc := 29) dX12_lead_29 rfl (by rw [← hQ0]; exact ⟨by simp only [f_lead, hKx, e1, c5, eq_true c17, if_true, if_false, Bool.true_eq_false, Bool.false_eq_true, reduceIte, reduceCtorEq, Bool.not_true, Bool.not_false, true_and, and_true, and_false, false_and, or_true, true_or, or_false, false_or, not_true_eq_false, not_false_eq_true], by simp only [f_lead, hKx, e1, c5, eq_true c17, if_true, if_false, Bool.true_eq_false, Bool.false_eq_true, reduceIte, reduceCtorEq, Bool.not_true, Bool.not_false, true_and, and_true, and_false, false_and, or_true, true_or, or_false, false_or, not_true_eq_false, not_false_eq_true] <;> exact hM, hF⟩)
    · skip
      refine wp_aload_n (pc := 20) dX12_lead_20 rfl rfl ?_
      refine mp_call (pc := 21) [] dX12_lead_21 rfl cv_X12_203_13 rfl ⟨(Nat.le_of_ble_eq_true rfl), (Nat.le_of_ble_eq_true rfl)⟩ (Nat.le_of_ble_eq_true rfl) ⟨rfl, rfl⟩ (ms_isMost l G x am _ (by exact hK) hK5) hM hF (fun h hM hF => ?_)
      refine wp_ifB_ne (pc := 24) (tgt := 30) dX12_lead_24 (by decide) (fun c24 => ?_) (fun c24 => ?_)
      · skip
        refine wp_aload_n (pc := 30) dX12_lead_30 rfl rfl ?_
        refine wp_iload_n (pc := 31) dX12_lead_31 rfl rfl ?_
        refine mp_putS (pc := 32) dX12_lead_32 fl_X12_78_13 hM hF rfl rfl (by decide) rfl (fun h hM hF => ?_)
        refine wp_aload_n (pc := 35) dX12_lead_35 rfl rfl ?_
        refine wp_dup (pc := 36) dX12_lead_36 rfl ?_
        refine wp_get (pc := 37) dX12_lead_37 fl_X12_207_13 hM.1 rfl ?_
        refine wp_iconst (pc := 40) (v := 1) dX12_lead_40 (by decide) ?_
        refine wp_iadd (pc := 41) dX12_lead_41 ?_
        refine mp_putS (pc := 42) dX12_lead_42 fl_X12_207_13 hM hF rfl rfl (by decide) rfl (fun h hM hF => ?_)
        refine wp_iconst (pc := 45) (v := 0) dX12_lead_45 (by decide) ?_
        refine wp_istore_n (pc := 46) (lv' := [_, _, _, _, _, _]) dX12_lead_46 rfl (Nat.le_of_ble_eq_true rfl) rfl rfl ?_
        have hM : InM x am (sS (sS M 27 (nI j)) 28 (M.1 28 + 1)) h := hM
        generalize hMS : sS (sS M 27 (nI j)) 28 (M.1 28 + 1) = MS0 at hM
        have hS1 : ∀ k, k ≠ 27 → k ≠ 28 → MS0.1 k = M.1 k := fun k h1 h2 => by rw [← hMS]; simp [sS, fu, h1, h2]
        have hS2 : MS0.2.1 = M.2.1 := by rw [← hMS]; rfl
        have hS8 : MS0.1 28 = M.1 28 + 1 := by rw [← hMS]; rfl
        have loop : ∀ i, i ≤ N → ∀ h, InM x am (ledM MS0 j i) h → Fr x am h0 h → wp l G mX12_lead (zM G mX12_lead Q0) 47 [some (.ref x), some (.int (nI j)), some (.int (nI i)), none, none, none] [] h 0 0 := by
          refine loopU _ N (fun i hi ih => ?_) ?_
          · intro h hM hF
            obtain ⟨g, hg20, hgi⟩ := hg i hi
            have hA := (ledM_1 MS0 j i).1
            have hB := (ledM_1 MS0 j i).2
            have hN : ledM MS0 j (i + 1) = sL (ledE (ledM MS0 j i) i (kClk (ledM MS0 j i) j + (lng (ledM MS0 j i) i).toInt64) (nx (MS0.2.1 21 i))) 19 i (kClk (ledM MS0 j i) j + (lng (ledM MS0 j i) i).toInt64) := rfl
            rw [hN] at ih
            generalize ledM MS0 j i = MI at hM hA hB ih
            have hT' : MI.1 11 = nI N := by rw [hA, hS1 11 (by decide) (by decide)]; exact hT
            have hd0' : ¬ 1000 - MI.1 0 = 0 := by rw [hA, hS1 0 (by decide) (by decide)]; exact hd0
            have hgx : nx (MS0.2.1 21 i) = g := by rw [hS2, hgi]; exact nx_nI (by omega)
            have hgi' : MI.2.1 21 i = nI g := by rw [hB, hS2]; exact hgi
            rw [hgx] at ih
            refine wp_iload_n (pc := 47) dX12_lead_47 rfl rfl ?_
            refine wp_aload_n (pc := 48) dX12_lead_48 rfl rfl ?_
            refine wp_get (pc := 49) dX12_lead_49 fl_X12_167_13 hM.1 rfl ?_
            refine wp_icmp_ge (pc := 52) (tgt := 114) dX12_lead_52 (by decide) (fun z => absurd z (by rw [hT']; exact nI_ge hi (by omega))) (fun _ => ?_)
            refine wp_aload_n (pc := 55) dX12_lead_55 rfl rfl ?_
            refine wp_iload_n (pc := 56) dX12_lead_56 rfl rfl ?_
            refine mp_call (pc := 57) [_] dX12_lead_57 rfl cv_X12_187_13 rfl ⟨(Nat.le_of_ble_eq_true rfl), (Nat.le_of_ble_eq_true rfl)⟩ (Nat.le_of_ble_eq_true rfl) ⟨rfl, rfl⟩ (ms_kClock l G x am _ _ (by omega)) hM hF (fun h hM hF => ?_)
            refine wp_aload_n (pc := 60) dX12_lead_60 rfl rfl ?_
            refine wp_iload_n (pc := 61) dX12_lead_61 rfl rfl ?_
            refine mp_call (pc := 62) [_] dX12_lead_62 rfl cv_X12_210_13 rfl ⟨(Nat.le_of_ble_eq_true rfl), (Nat.le_of_ble_eq_true rfl)⟩ (Nat.le_of_ble_eq_true rfl) ⟨rfl, rfl⟩ (ms_long0 l G x am _ _ (by omega) hd0') hM hF (fun h hM hF => ?_)
            refine wp_i2l (pc := 65) dX12_lead_65 ?_
            refine wp_ladd (pc := 66) dX12_lead_66 ?_
            refine wp_lstore_n (pc := 67) (lv' := [_, _, _, _, _, _]) dX12_lead_67 rfl (Nat.le_of_ble_eq_true rfl) rfl rfl ?_
            refine wp_iconst (pc := 68) (v := 0) dX12_lead_68 (by decide) ?_
            refine wp_istore (pc := 69) (lv' := [_, _, _, _, _, _]) dX12_lead_69 (Nat.le_of_ble_eq_true rfl) rfl rfl ?_
            generalize hE : kClk MI j + (lng MI i).toInt64 = E at ih
            have loop2 : ∀ q, q ≤ g → ∀ h, InM x am (ledE MI i E q) h → Fr x am h0 h → wp l G mX12_lead (zM G mX12_lead Q0) 71 [some (.ref x), some (.int (nI j)), some (.int (nI i)), some (.long E), none, some (.int (nI q))] [] h 0 0 := by
              refine loopU _ g (fun q hq ih2 => ?_) ?_
              · intro h hM hF
                have hB2 := (ledE_1 MI i E q).2
                refine wp_iload (pc := 71) dX12_lead_71 rfl ?_
                refine wp_aload_n (pc := 73) dX12_lead_73 rfl rfl ?_
                refine wp_get (pc := 74) dX12_lead_74 fl_X12_60_13 hM.1 rfl ?_
                refine wp_iload_n (pc := 77) dX12_lead_77 rfl rfl ?_
                refine wp_iald (pc := 78) (i := i) dX12_lead_78 (hM.i 21 rfl) ⟨rfl, by omega, by decide⟩ ?_
                rw [hB2, hgi']
                refine wp_icmp_ge (pc := 79) (tgt := 101) dX12_lead_79 (by decide) (fun z => absurd z (nI_ge hq (by omega))) (fun _ => ?_)
                refine wp_aload_n (pc := 82) dX12_lead_82 rfl rfl ?_
                refine wp_get (pc := 83) dX12_lead_83 fl_X12_75_13 hM.1 rfl ?_
                refine wp_bipush (pc := 86) (v := 20) dX12_lead_86 (by decide) ?_
                refine wp_iload_n (pc := 88) dX12_lead_88 rfl rfl ?_
                refine wp_imul (pc := 89) dX12_lead_89 ?_
                refine wp_iload (pc := 90) dX12_lead_90 rfl ?_
                refine wp_iadd (pc := 92) dX12_lead_92 ?_
                refine wp_lload_n (pc := 93) dX12_lead_93 rfl rfl ?_
                refine mp_last (pc := 94) (k := 26) (i := ((20 * i) + q)) dX12_lead_94 hM hF rfl ⟨by simp only [nl1, nl5, nl8, nl20, pk_mul, nI_add], by omega, by decide⟩ (fun h hM hF => ?_)
                refine wp_iinc (pc := 95) (v := _ + 1) (lv' := [_, _, _, _, _, _]) dX12_lead_95 rfl rfl rfl rfl ?_
                refine wp_goto (pc := 98) (tgt := 71) dX12_lead_98 (by decide) ?_
                exact wp_lv (ih2 h hM hF) (by simp [nI_1])
              · intro h hM hF
                have hB2 := (ledE_1 MI i E g).2
                refine wp_iload (pc := 71) dX12_lead_71 rfl ?_
                refine wp_aload_n (pc := 73) dX12_lead_73 rfl rfl ?_
                refine wp_get (pc := 74) dX12_lead_74 fl_X12_60_13 hM.1 rfl ?_
                refine wp_iload_n (pc := 77) dX12_lead_77 rfl rfl ?_
                refine wp_iald (pc := 78) (i := i) dX12_lead_78 (hM.i 21 rfl) ⟨rfl, by omega, by decide⟩ ?_
                rw [hB2, hgi']
                refine wp_icmp_ge (pc := 79) (tgt := 101) dX12_lead_79 (by decide) (fun _ => ?_) (fun z => absurd (nI_le (Nat.le_refl _) (by omega)) z)
                refine wp_aload_n (pc := 101) dX12_lead_101 rfl rfl ?_
                refine wp_get (pc := 102) dX12_lead_102 fl_X12_54_13 hM.1 rfl ?_
                refine wp_iload_n (pc := 105) dX12_lead_105 rfl rfl ?_
                refine wp_lload_n (pc := 106) dX12_lead_106 rfl rfl ?_
                refine mp_last (pc := 107) (k := 19) (i := i) dX12_lead_107 hM hF rfl ⟨rfl, by omega, by decide⟩ (fun h hM hF => ?_)
                refine wp_iinc (pc := 108) (v := _ + 1) (lv' := [_, _, _, _, _, _]) dX12_lead_108 rfl rfl rfl rfl ?_
                refine wp_goto (pc := 111) (tgt := 47) dX12_lead_111 (by decide) ?_
                exact wp_drop (ih h hM hF) (by simp [lvle, nI_1])
            exact loop2 0 (Nat.zero_le _) h hM hF
          · intro h hM hF
            have hA := (ledM_1 MS0 j N).1
            have hT' : (ledM MS0 j N).1 11 = nI N := by rw [hA, hS1 11 (by decide) (by decide)]; exact hT
            have hA8 : (ledM MS0 j N).1 28 = M.1 28 + 1 := by rw [hA]; exact hS8
            refine wp_iload_n (pc := 47) dX12_lead_47 rfl rfl ?_
            refine wp_aload_n (pc := 48) dX12_lead_48 rfl rfl ?_
            refine wp_get (pc := 49) dX12_lead_49 fl_X12_167_13 hM.1 rfl ?_
            refine wp_icmp_ge (pc := 52) (tgt := 114) dX12_lead_52 (by decide) (fun _ => ?_) (fun z => absurd (by rw [hT']; exact nI_le (Nat.le_refl _) (by omega)) z)
            refine wp_aload_n (pc := 114) dX12_lead_114 rfl rfl ?_
            refine wp_get (pc := 115) dX12_lead_115 fl_X12_207_13 hM.1 rfl ?_
            exact wp_iret (pc := 118) dX12_lead_118 rfl (by rw [← hQ0]; exact ⟨by rw [hA8]; simp only [f_lead, hKx, hTx, e1, c5, eq_false c17, c24, if_true, if_false, Bool.true_eq_false, Bool.false_eq_true, reduceIte, reduceCtorEq, Bool.not_true, Bool.not_false, true_and, and_true, and_false, false_and, or_true, true_or, or_false, false_or, not_true_eq_false, not_false_eq_true], by simp only [f_lead, hKx, hTx, e1, c5, eq_false c17, c24, if_true, if_false, Bool.true_eq_false, Bool.false_eq_true, reduceIte, reduceCtorEq, Bool.not_true, Bool.not_false, true_and, and_true, and_false, false_and, or_true, true_or, or_false, false_or, not_true_eq_false, not_false_eq_true] <;> (rw [hMS]; exact hM), hF⟩)
        exact wp_drop (loop 0 (Nat.zero_le _) h hM hF) (by simp [lvle, nI_0])
      · skip
        refine wp_bipush (pc := 27) (v := (-3)) dX12_lead_27 (by decide) ?_
        exact wp_iret (pc := 29) dX12_lead_29 rfl (by rw [← hQ0]; exact ⟨by simp only [f_lead, hKx, e1, c5, eq_false c17, c24, if_true, if_false, Bool.true_eq_false, Bool.false_eq_true, reduceIte, reduceCtorEq, Bool.not_true, Bool.not_false, true_and, and_true, and_false, false_and, or_true, true_or, or_false, false_or, not_true_eq_false, not_false_eq_true], by simp only [f_lead, hKx, e1, c5, eq_false c17, c24, if_true, if_false, Bool.true_eq_false, Bool.false_eq_true, reduceIte, reduceCtorEq, Bool.not_true, Bool.not_false, true_and, and_true, and_false, false_and, or_true, true_or, or_false, false_or, not_true_eq_false, not_false_eq_true] <;> exact hM, hF⟩)
  · skip
    refine wp_bipush (pc := 8) (v := (-2)) dX12_lead_8 (by decide) ?_
    exact wp_iret (pc := 10) dX12_lead_10 rfl (by rw [← hQ0]; exact ⟨by simp only [f_lead, hKx, c5, if_true, if_false, Bool.true_eq_false, Bool.false_eq_true, reduceIte, reduceCtorEq, Bool.not_true, Bool.not_false, true_and, and_true, and_false, false_and, or_true, true_or, or_false, false_or, not_true_eq_false, not_false_eq_true], by simp only [f_lead, hKx, c5, if_true, if_false, Bool.true_eq_false, Bool.false_eq_true, reduceIte, reduceCtorEq, Bool.not_true, Bool.not_false, true_and, and_true, and_false, false_and, or_true, true_or, or_false, false_or, not_true_eq_false, not_false_eq_true] <;> exact hM, hF⟩)
end M3
