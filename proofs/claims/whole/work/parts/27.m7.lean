/-! ===== the reference: letters to keepers and to workers ===== -/
theorem sI_n (M : MS) (k : Nat) {j j' : Nat} (v : Int32) (k' : Nat) (h : j' ≠ j) : (sI M k j v).2.1 k' j' = M.2.1 k' j' := by
  unfold sI fu
  by_cases e : k' = k
  · subst e; simp [h]
  · simp [e]
theorem sI_k (M : MS) {k k' : Nat} (j : Nat) (v : Int32) (h : k' ≠ k) : (sI M k j v).2.1 k' = M.2.1 k' := by simp [sI, fu, h]
theorem sL_n (M : MS) (k : Nat) {j j' : Nat} (v : Int64) (k' : Nat) (h : j' ≠ j) : (sL M k j v).2.2 k' j' = M.2.2 k' j' := by
  unfold sL fu
  by_cases e : k' = k
  · subst e; simp [h]
  · simp [e]
theorem sL_k (M : MS) {k k' : Nat} (j : Nat) (v : Int64) (h : k' ≠ k) : (sL M k j v).2.2 k' = M.2.2 k' := by simp [sL, fu, h]
theorem sI_2 (M : MS) (k j : Nat) (v : Int32) : (sI M k j v).2.2 = M.2.2 := rfl
theorem sL_1 (M : MS) (k j : Nat) (v : Int64) : (sL M k j v).2.1 = M.2.1 := rfl
theorem sS_1 (M : MS) (k : Nat) (v : Int32) : (sS M k v).2.1 = M.2.1 := rfl
theorem sS_2 (M : MS) (k : Nat) (v : Int32) : (sS M k v).2.2 = M.2.2 := rfl
theorem snd_n (M : MS) {L j : Nat} (a b c d : Int32) (k : Nat) (h : j ≠ L) : (sndM M L a b c d).2.1 k j = M.2.1 k j := by unfold sndM; simp only [sL_1, sI_n _ _ _ _ h, sS_1]
theorem snd_n2 (M : MS) {L j : Nat} (a b c d : Int32) (k : Nat) (h : j ≠ L) : (sndM M L a b c d).2.2 k j = M.2.2 k j := by unfold sndM; simp only [sL_n _ _ _ _ h, sI_2, sS_2]
theorem snd_k (M : MS) (L : Nat) (a b c d : Int32) {k : Nat} (h : k < 36 ∨ 43 < k) : (sndM M L a b c d).2.1 k = M.2.1 k := by
  unfold sndM
  simp only [sL_1, sI_k _ _ _ (show k ≠ 36 by omega), sI_k _ _ _ (show k ≠ 37 by omega), sI_k _ _ _ (show k ≠ 38 by omega), sI_k _ _ _ (show k ≠ 39 by omega), sI_k _ _ _ (show k ≠ 40 by omega), sI_k _ _ _ (show k ≠ 41 by omega), sI_k _ _ _ (show k ≠ 42 by omega), sI_k _ _ _ (show k ≠ 43 by omega), sS_1]
theorem snd_k2 (M : MS) (L : Nat) (a b c d : Int32) {k : Nat} (h : k < 44 ∨ 45 < k) : (sndM M L a b c d).2.2 k = M.2.2 k := by
  unfold sndM
  simp only [sI_2, sL_k _ _ _ (show k ≠ 44 by omega), sL_k _ _ _ (show k ≠ 45 by omega), sS_2]
/-- what looks() leaves of a state whose letters are L -/
def lkOK (A M : MS) (t L : Nat) : Prop := (∀ k, k ≠ 35 → A.1 k = M.1 k) ∧ (A.1 35 = M.1 35 ∨ A.1 35 = M.1 35 + 1) ∧ (∀ k, (k < 15 ∨ k = 18 ∨ k = 19 ∨ (24 < k ∧ k < 36) ∨ 43 < k) → A.2.1 k = M.2.1 k) ∧ (∀ k j, 35 < k → j ≠ L → A.2.1 k j = M.2.1 k j) ∧ ∀ k j, 43 < k → j ≠ L → A.2.2 k j = M.2.2 k j
theorem lkOK.tr {A B C : MS} {t L : Nat} (h : lkOK A B t L) (hB : B.1 = C.1) (h1 : ∀ k, (k < 15 ∨ k = 18 ∨ k = 19 ∨ 24 < k) → B.2.1 k = C.2.1 k) (h2 : ∀ k, 26 < k → B.2.2 k = C.2.2 k) : lkOK A C t L := by
  obtain ⟨a1, a2, a3, a4, a5⟩ := h
  refine ⟨fun k hk => by rw [a1 k hk, hB], by rw [← hB]; exact a2, fun k hk => (a3 k hk).trans (h1 k (by omega)), fun k j hk hj => by rw [a4 k j hk hj, h1 k (by omega)], fun k j hk hj => by rw [a5 k j hk hj, h2 k (by omega)]⟩
theorem lkC_ok (M : MS) (t : Nat) (c : Int64) : lkOK (lkC M t c) M t (nx (M.1 35)) := by
  unfold lkC
  split
  · exact ⟨fun _ _ => rfl, Or.inl rfl, fun _ _ => rfl, fun _ _ _ _ => rfl, fun _ _ _ _ => rfl⟩
  · split
    · split
      · refine ⟨fun k hk => ?_, Or.inr rfl, fun k hk => ?_, fun k j hk hj => ?_, fun k j hk hj => ?_⟩
        · simp [sndM, sL, sI, sS, fu, hk]
        · exact (snd_k _ _ _ _ _ _ (by omega)).trans (by rw [sL_1, sI_k _ _ _ (by omega)])
        · exact (snd_n _ _ _ _ _ k hj).trans (by rw [sL_1, sI_k _ _ _ (by omega)])
        · exact (snd_n2 _ _ _ _ _ k hj).trans (by rw [sL_k _ _ _ (by omega), sI_2])
      · exact ⟨fun _ _ => rfl, Or.inl rfl, fun _ _ => rfl, fun _ _ _ _ => rfl, fun _ _ _ _ => rfl⟩
    · exact ⟨fun _ _ => rfl, Or.inl rfl, fun _ _ => rfl, fun _ _ _ _ => rfl, fun _ _ _ _ => rfl⟩
theorem lkQ_2 (M : MS) (t : Nat) (c : Int64) : (lkQ M t c).2.2 = M.2.2 ∧ ∀ k, k ≠ 16 → k ≠ 17 → k ≠ 20 → (lkQ M t c).2.1 k = M.2.1 k := by
  unfold lkQ
  split
  · exact ⟨rfl, fun _ _ _ _ => rfl⟩
  · split
    · exact ⟨rfl, fun _ _ _ _ => rfl⟩
    · exact (unqM_same M t 0 _).2
theorem looks_ok (M : MS) (t : Nat) : lkOK (looksM M t) M t (nx (M.1 35)) := by
  unfold looksM
  simp only []
  generalize kClk M (nx (M.1 27)) = c
  have s1 := lkM_same t c (nx (M.2.1 21 t)) 0 M
  generalize lkM M t c 0 (nx (M.2.1 21 t)) = A at s1
  have e1 : (lkQ (lkR A t) t c).1 = M.1 := by rw [lkQ_1, lkR_1, s1.1]
  have h := lkC_ok (lkQ (lkR A t) t c) t c
  rw [e1] at h
  refine h.tr e1 (fun k hk => ?_) (fun k hk => ?_)
  · rw [(lkQ_2 _ _ _).2 k (by omega) (by omega) (by omega), lkR_2 A t k (by omega), s1.2.1 k (by omega) (by omega) (by omega) (by omega)]
  · rw [(lkQ_2 _ _ _).1, lkR_3, s1.2.2 k (by omega) (by omega)]
theorem lkC_21 (M : MS) (t : Nat) (c : Int64) : (lkC M t c).2.1 21 = M.2.1 21 ∧ (lkC M t c).2.1 16 = M.2.1 16 ∧ (lkC M t c).2.1 15 = M.2.1 15 ∧ (lkC M t c).2.1 17 = M.2.1 17 := by
  unfold lkC
  split
  · exact ⟨rfl, rfl, rfl, rfl⟩
  · split
    · split
      · exact ⟨by rw [snd_k _ _ _ _ _ _ (by omega)]; rfl, by rw [snd_k _ _ _ _ _ _ (by omega)]; rfl, by rw [snd_k _ _ _ _ _ _ (by omega)]; rfl, by rw [snd_k _ _ _ _ _ _ (by omega)]; rfl⟩
      · exact ⟨rfl, rfl, rfl, rfl⟩
    · exact ⟨rfl, rfl, rfl, rfl⟩
theorem looks_cnt (M : MS) (t : Nat) {g q : Nat} (hg : M.2.1 21 t = nI g) (hg2 : g ≤ 20) (hq : M.2.1 16 t = nI q) (hq2 : q ≤ 8) (hcq : ¬ M.2.1 20 t = 0 → 0 < q) : (∃ g', g' ≤ g ∧ (looksM M t).2.1 21 t = nI g') ∧ ∃ q', q' ≤ q ∧ (looksM M t).2.1 16 t = nI q' ∧ (¬ (looksM M t).2.1 20 t = 0 → 0 < q') := by
  have hgx : nx (M.2.1 21 t) = g := by rw [hg]; exact nx_nI (by omega)
  unfold looksM
  simp only []
  rw [hgx]
  generalize kClk M (nx (M.1 27)) = c
  have s1 := lkM_same t c g 0 M
  obtain ⟨g', -, h2, h3⟩ := lkM_cnt t c g 0 M (by rw [hg, Nat.zero_add])
  generalize lkM M t c 0 g = A at s1 h3
  obtain ⟨c1, c2, -, -⟩ := lkC_21 (lkQ (lkR A t) t c) t c
  rw [c1, c2]
  have q2 := (lkQ_2 (lkR A t) t c).2
  refine ⟨⟨g', by omega, by rw [q2 21 (by decide) (by decide) (by decide), lkR_2 A t 21 (by decide)]; exact h3⟩, ?_⟩
  have hA16 : (lkR A t).2.1 16 t = nI q := by rw [lkR_2 A t 16 (by decide), s1.2.1 16 (by decide) (by decide) (by decide) (by decide)]; exact hq
  have hA20 : (lkR A t).2.1 20 t = M.2.1 20 t := by rw [lkR_2 A t 20 (by decide), s1.2.1 20 (by decide) (by decide) (by decide) (by decide)]
  have key : ∃ q', q' ≤ q ∧ (lkQ (lkR A t) t c).2.1 16 t = nI q' ∧ (¬ (lkQ (lkR A t) t c).2.1 20 t = 0 → 0 < q') := by
    unfold lkQ
    split
    · rename_i h; exact ⟨q, Nat.le_refl _, hA16, fun z => absurd h z⟩
    · rename_i hn
      split
      · exact ⟨q, Nat.le_refl _, hA16, fun _ => hcq (by rw [← hA20]; exact hn)⟩
      · refine ⟨q - 1, by omega, ?_, fun z => absurd ?_ z⟩
        · have hq0 := hcq (by rw [← hA20]; exact hn)
          show (unqM (lkR A t) t 0 _).2.1 16 t = _
          unfold unqM
          rw [if_pos rfl]
          show (uqM (lkR A t) t 0 _).2.1 16 t = _
          rw [uqM_16, fu_s, hA16, subE hq0]
        · unfold unqM; rw [if_pos rfl]; simp [sI, fu]
  obtain ⟨q', k1, k2, k3⟩ := key
  refine ⟨q', k1, k2, fun z => ?_⟩
  by_cases hz : (lkQ (lkR A t) t c).2.1 20 t = 0
  · have : 0 < q' := by
      rcases Nat.eq_zero_or_pos q' with e | e
      · exfalso
        apply z
        unfold lkC
        rw [if_pos (by rw [k2, e]; decide)]
        exact hz
      · exact e
    exact this
  · exact k3 hz
def tkM (M : MS) (j : Nat) : MS :=
  let t := nx (M.2.1 39 j)
  let A := looksM M t
  if A.2.1 36 j = 0 then askM A j t
  else if A.2.1 36 j = 1 then (match mnt A j t with | none => lteM A j | some a => prlM A j t a)
  else if A.2.1 36 j = 2 then (match mnt A j t with | none => A | some a => looksM (goM A t a (nx (A.2.1 21 t) - 1 - a)) t)
  else risM A j t
section M7
variable (l : Launch) (G : WG) (x : Nat) (am : Nat → Nat) (M : MS)
theorem ms_toKeeper  (j : Nat) {t g k q L : Nat} (ht : t < 20) (hg : M.2.1 21 t = nI g) (hg2 : g ≤ 20) (hq : M.2.1 16 t = nI q) (hq2 : q ≤ 8) (hcq : ¬ M.2.1 20 t = 0 → 0 < q) (htj : M.2.1 39 j = nI t) (hk : M.1 27 = nI k) (hk5 : k < 5) (hd0 : ¬ 1000 - M.1 0 = 0) (hL : M.1 35 = nI L) (hL3 : L + 3 ≤ 400) (hj : j < L) (hgn : gof (looksM M t) t ((looksM M t).2.1 37 j) (nx ((looksM M t).2.1 21 t)) = none → nx ((looksM M t).2.1 21 t) < 20) : MSp l G x am mX12_toKeeper [.int (nI j)] M none (tkM M j) := by
  refine MSp.intro (lv := [_, _, _, _]) (by decide) rfl (Nat.le_of_ble_eq_true rfl) (fun h0 h hM hF => ?_)
  have htx : nx (M.2.1 39 j) = t := by rw [htj]; exact nx_nI (by omega)
  have hLx : nx (M.1 35) = L := by rw [hL]; exact nx_nI (by omega)
  obtain ⟨o1, o2, o3, o4, o5⟩ := looks_ok M t
  rw [hLx] at o4 o5
  obtain ⟨⟨gA, hgA2, hgA⟩, qA, hqA2, hqA, hcqA⟩ := looks_cnt M t hg hg2 hq hq2 hcq
  have htk : tkM M j = (if (looksM M t).2.1 36 j = 0 then askM (looksM M t) j t else if (looksM M t).2.1 36 j = 1 then (match mnt (looksM M t) j t with | none => lteM (looksM M t) j | some a => prlM (looksM M t) j t a) else if (looksM M t).2.1 36 j = 2 then (match mnt (looksM M t) j t with | none => looksM M t | some a => looksM (goM (looksM M t) t a (gA - 1 - a)) t) else risM (looksM M t) j t) := by unfold tkM; rw [htx]; simp only []; rw [show nx ((looksM M t).2.1 21 t) = gA by rw [hgA]; exact nx_nI (by omega)]
  have hkA : (looksM M t).1 27 = nI k := by rw [o1 27 (by decide)]; exact hk
  have hdA : ¬ 1000 - (looksM M t).1 0 = 0 := by rw [o1 0 (by decide)]; exact hd0
  have htA : (looksM M t).2.1 39 j = nI t := by rw [o4 39 j (by decide) (by omega)]; exact htj
  obtain ⟨LA, hLA2, hLA⟩ : ∃ LA, LA ≤ L + 1 ∧ (looksM M t).1 35 = nI LA := by
    rcases o2 with z | z
    · exact ⟨L, by omega, by rw [z]; exact hL⟩
    · exact ⟨L + 1, Nat.le_refl _, by rw [z, hL]; exact nI_1 L⟩
  refine wp_aload_n (pc := 0) dX12_toKeeper_0 rfl rfl ?_
  refine wp_get (pc := 1) dX12_toKeeper_1 fl_X12_109_13 hM.1 rfl ?_
  refine wp_iload_n (pc := 4) dX12_toKeeper_4 rfl rfl ?_
  refine wp_iald (pc := 5) (i := j) dX12_toKeeper_5 (hM.i 39 rfl) ⟨rfl, by omega, by decide⟩ ?_
  rw [htj]
  refine wp_istore_n (pc := 6) (lv' := [_, _, _, _]) dX12_toKeeper_6 rfl (Nat.le_of_ble_eq_true rfl) rfl rfl ?_
  refine wp_aload_n (pc := 7) dX12_toKeeper_7 rfl rfl ?_
  refine wp_iload_n (pc := 8) dX12_toKeeper_8 rfl rfl ?_
  refine mp_callV (pc := 9) [_] dX12_toKeeper_9 rfl cv_X12_285_13 rfl ⟨(Nat.le_of_ble_eq_true rfl), (Nat.le_of_ble_eq_true rfl)⟩ (Nat.le_of_ble_eq_true rfl) ⟨rfl, rfl⟩ (ms_looks l G x am _ _ g q k (by omega) (by exact hg) hg2 (by exact hq) hq2 (by exact hcq) (by exact hk) hk5 (L := L) (by exact hL) (by omega) (by exact hd0)) hM hF (fun h hM hF => ?_)
  refine wp_aload_n (pc := 12) dX12_toKeeper_12 rfl rfl ?_
  refine wp_iload_n (pc := 13) dX12_toKeeper_13 rfl rfl ?_
  refine mp_call (pc := 14) [_] dX12_toKeeper_14 rfl cv_X12_276_13 rfl ⟨(Nat.le_of_ble_eq_true rfl), (Nat.le_of_ble_eq_true rfl)⟩ (Nat.le_of_ble_eq_true rfl) ⟨rfl, rfl⟩ (ms_meant l G x am _ _ (t := t) (by omega) (by exact hgA) (by omega) (by omega) (by exact htA)) hM hF (fun h hM hF => ?_)
  cases ho : mnt (looksM M t) j t with
  | none =>
    rw [ho] at htk
    refine wp_istore_n (pc := 17) (lv' := [_, _, _, _]) dX12_toKeeper_17 rfl (Nat.le_of_ble_eq_true rfl) rfl rfl ?_
    refine wp_aload_n (pc := 18) dX12_toKeeper_18 rfl rfl ?_
    refine wp_get (pc := 19) dX12_toKeeper_19 fl_X12_100_13 hM.1 rfl ?_
    refine wp_iload_n (pc := 22) dX12_toKeeper_22 rfl rfl ?_
    refine wp_iald (pc := 23) (i := j) dX12_toKeeper_23 (hM.i 36 rfl) ⟨rfl, by omega, by decide⟩ ?_
    refine wp_tsw_0_2 (pc := 24) dX12_toKeeper_24 (t0 := 52) (t1 := 60) (t2 := 82) (td := 101) (by decide) (by decide) (by decide) (by decide) (fun c24 => ?_) (fun c24 => ?_) (fun c24 => ?_) (fun c24 => ?_)
    · skip
      refine wp_aload_n (pc := 52) dX12_toKeeper_52 rfl rfl ?_
      refine wp_iload_n (pc := 53) dX12_toKeeper_53 rfl rfl ?_
      refine mp_callV (pc := 54) [_] dX12_toKeeper_54 rfl cv_X12_288_13 rfl ⟨(Nat.le_of_ble_eq_true rfl), (Nat.le_of_ble_eq_true rfl)⟩ (Nat.le_of_ble_eq_true rfl) ⟨rfl, rfl⟩ (ms_asks l G x am _ _ (t := t) (g := gA) (k := k) (q := qA) (by omega) (by exact hgA) (by omega) (by exact htA) (by exact hkA) hk5 (by exact hdA) (L := LA) (by exact hLA) (by omega) (by omega) (by exact hqA) (by omega) (by intro z; have := hgn z; rw [hgA, nx_nI (show gA < 2 ^ 31 by omega)] at this; exact this)) hM hF (fun h hM hF => ?_)
      refine wp_goto (pc := 57) (tgt := 106) dX12_toKeeper_57 (by decide) ?_
      exact wp_vret (pc := 106) dX12_toKeeper_106 rfl ⟨rfl, by first | (rw [htk, if_neg (by rw [c24]; decide), if_neg (by rw [c24]; decide), if_pos c24]; with_reducible exact hM) | (rw [htk, if_neg (by rw [c24]; decide), if_pos c24]; with_reducible exact hM) | (rw [htk, if_pos c24]; with_reducible exact hM) | (rw [htk, if_neg (sw_ne c24 (by decide)), if_neg (sw_ne c24 (by decide)), if_neg (sw_ne c24 (by decide))]; with_reducible exact hM), hF⟩
    · skip
      refine wp_iload_n (pc := 60) dX12_toKeeper_60 rfl rfl ?_
      refine wp_iconst (pc := 61) (v := (-1)) dX12_toKeeper_61 (by decide) ?_
      refine wp_icmp_ne (pc := 62) (tgt := 73) dX12_toKeeper_62 (by decide) (fun z => absurd rfl z) (fun _ => ?_)
      refine wp_aload_n (pc := 65) dX12_toKeeper_65 rfl rfl ?_
      refine wp_iload_n (pc := 66) dX12_toKeeper_66 rfl rfl ?_
      refine mp_callV (pc := 67) [_] dX12_toKeeper_67 rfl cv_X12_279_13 rfl ⟨(Nat.le_of_ble_eq_true rfl), (Nat.le_of_ble_eq_true rfl)⟩ (Nat.le_of_ble_eq_true rfl) ⟨rfl, rfl⟩ (ms_isLate l G x am _ _ (L := LA) (by exact hLA) (by omega) (by omega)) hM hF (fun h hM hF => ?_)
      refine wp_goto (pc := 70) (tgt := 106) dX12_toKeeper_70 (by decide) ?_
      exact wp_vret (pc := 106) dX12_toKeeper_106 rfl ⟨rfl, by first | (rw [htk, if_neg (by rw [c24]; decide), if_neg (by rw [c24]; decide), if_pos c24]; with_reducible exact hM) | (rw [htk, if_neg (by rw [c24]; decide), if_pos c24]; with_reducible exact hM) | (rw [htk, if_pos c24]; with_reducible exact hM) | (rw [htk, if_neg (sw_ne c24 (by decide)), if_neg (sw_ne c24 (by decide)), if_neg (sw_ne c24 (by decide))]; with_reducible exact hM), hF⟩
    · skip
      refine wp_iload_n (pc := 82) dX12_toKeeper_82 rfl rfl ?_
      refine wp_iconst (pc := 83) (v := (-1)) dX12_toKeeper_83 (by decide) ?_
      refine wp_icmp_eq (pc := 84) (tgt := 106) dX12_toKeeper_84 (by decide) (fun _ => ?_) (fun z => absurd rfl z)
      exact wp_vret (pc := 106) dX12_toKeeper_106 rfl ⟨rfl, by first | (rw [htk, if_neg (by rw [c24]; decide), if_neg (by rw [c24]; decide), if_pos c24]; with_reducible exact hM) | (rw [htk, if_neg (by rw [c24]; decide), if_pos c24]; with_reducible exact hM) | (rw [htk, if_pos c24]; with_reducible exact hM) | (rw [htk, if_neg (sw_ne c24 (by decide)), if_neg (sw_ne c24 (by decide)), if_neg (sw_ne c24 (by decide))]; with_reducible exact hM), hF⟩
    · skip
      refine wp_aload_n (pc := 101) dX12_toKeeper_101 rfl rfl ?_
      refine wp_iload_n (pc := 102) dX12_toKeeper_102 rfl rfl ?_
      refine mp_callV (pc := 103) [_] dX12_toKeeper_103 rfl cv_X12_291_13 rfl ⟨(Nat.le_of_ble_eq_true rfl), (Nat.le_of_ble_eq_true rfl)⟩ (Nat.le_of_ble_eq_true rfl) ⟨rfl, rfl⟩ (ms_rises l G x am _ _ (t := t) (g := gA) (k := k) (by omega) (by exact hgA) (by omega) (by exact htA) (by exact hkA) hk5 (by exact hdA) (L := LA) (by exact hLA) (by omega) (by omega)) hM hF (fun h hM hF => ?_)
      exact wp_vret (pc := 106) dX12_toKeeper_106 rfl ⟨rfl, by first | (rw [htk, if_neg (by rw [c24]; decide), if_neg (by rw [c24]; decide), if_pos c24]; with_reducible exact hM) | (rw [htk, if_neg (by rw [c24]; decide), if_pos c24]; with_reducible exact hM) | (rw [htk, if_pos c24]; with_reducible exact hM) | (rw [htk, if_neg (sw_ne c24 (by decide)), if_neg (sw_ne c24 (by decide)), if_neg (sw_ne c24 (by decide))]; with_reducible exact hM), hF⟩
  | some a =>
    rw [ho] at htk
    have ha : a < gA := by have := mnt_lt ho; rw [hgA, nx_nI (show gA < 2 ^ 31 by omega)] at this; exact this
    rw [show plc (some a) = nI a from rfl]
    refine wp_istore_n (pc := 17) (lv' := [_, _, _, _]) dX12_toKeeper_17 rfl (Nat.le_of_ble_eq_true rfl) rfl rfl ?_
    refine wp_aload_n (pc := 18) dX12_toKeeper_18 rfl rfl ?_
    refine wp_get (pc := 19) dX12_toKeeper_19 fl_X12_100_13 hM.1 rfl ?_
    refine wp_iload_n (pc := 22) dX12_toKeeper_22 rfl rfl ?_
    refine wp_iald (pc := 23) (i := j) dX12_toKeeper_23 (hM.i 36 rfl) ⟨rfl, by omega, by decide⟩ ?_
    refine wp_tsw_0_2 (pc := 24) dX12_toKeeper_24 (t0 := 52) (t1 := 60) (t2 := 82) (td := 101) (by decide) (by decide) (by decide) (by decide) (fun c24 => ?_) (fun c24 => ?_) (fun c24 => ?_) (fun c24 => ?_)
    · skip
      refine wp_aload_n (pc := 52) dX12_toKeeper_52 rfl rfl ?_
      refine wp_iload_n (pc := 53) dX12_toKeeper_53 rfl rfl ?_
      refine mp_callV (pc := 54) [_] dX12_toKeeper_54 rfl cv_X12_288_13 rfl ⟨(Nat.le_of_ble_eq_true rfl), (Nat.le_of_ble_eq_true rfl)⟩ (Nat.le_of_ble_eq_true rfl) ⟨rfl, rfl⟩ (ms_asks l G x am _ _ (t := t) (g := gA) (k := k) (q := qA) (by omega) (by exact hgA) (by omega) (by exact htA) (by exact hkA) hk5 (by exact hdA) (L := LA) (by exact hLA) (by omega) (by omega) (by exact hqA) (by omega) (by intro z; have := hgn z; rw [hgA, nx_nI (show gA < 2 ^ 31 by omega)] at this; exact this)) hM hF (fun h hM hF => ?_)
      refine wp_goto (pc := 57) (tgt := 106) dX12_toKeeper_57 (by decide) ?_
      exact wp_vret (pc := 106) dX12_toKeeper_106 rfl ⟨rfl, by first | (rw [htk, if_neg (by rw [c24]; decide), if_neg (by rw [c24]; decide), if_pos c24]; with_reducible exact hM) | (rw [htk, if_neg (by rw [c24]; decide), if_pos c24]; with_reducible exact hM) | (rw [htk, if_pos c24]; with_reducible exact hM) | (rw [htk, if_neg (sw_ne c24 (by decide)), if_neg (sw_ne c24 (by decide)), if_neg (sw_ne c24 (by decide))]; with_reducible exact hM), hF⟩
    · skip
      refine wp_iload_n (pc := 60) dX12_toKeeper_60 rfl rfl ?_
      refine wp_iconst (pc := 61) (v := (-1)) dX12_toKeeper_61 (by decide) ?_
      refine wp_icmp_ne (pc := 62) (tgt := 73) dX12_toKeeper_62 (by decide) (fun _ => ?_) (fun z => absurd z (nI_m1 (by omega)))
      refine wp_aload_n (pc := 73) dX12_toKeeper_73 rfl rfl ?_
      refine wp_iload_n (pc := 74) dX12_toKeeper_74 rfl rfl ?_
      refine wp_iload_n (pc := 75) dX12_toKeeper_75 rfl rfl ?_
      refine mp_callV (pc := 76) [_, _] dX12_toKeeper_76 rfl cv_X12_282_13 rfl ⟨(Nat.le_of_ble_eq_true rfl), (Nat.le_of_ble_eq_true rfl)⟩ (Nat.le_of_ble_eq_true rfl) ⟨rfl, rfl⟩ (ms_prolongs l G x am _ _ _ (t := t) (k := k) (by omega) (by omega) (by exact htA) (by exact hkA) hk5 (by exact hdA) (L := LA) (by exact hLA) (by omega) (by omega)) hM hF (fun h hM hF => ?_)
      refine wp_goto (pc := 79) (tgt := 106) dX12_toKeeper_79 (by decide) ?_
      exact wp_vret (pc := 106) dX12_toKeeper_106 rfl ⟨rfl, by first | (rw [htk, if_neg (by rw [c24]; decide), if_neg (by rw [c24]; decide), if_pos c24]; with_reducible exact hM) | (rw [htk, if_neg (by rw [c24]; decide), if_pos c24]; with_reducible exact hM) | (rw [htk, if_pos c24]; with_reducible exact hM) | (rw [htk, if_neg (sw_ne c24 (by decide)), if_neg (sw_ne c24 (by decide)), if_neg (sw_ne c24 (by decide))]; with_reducible exact hM), hF⟩
    · skip
      refine wp_iload_n (pc := 82) dX12_toKeeper_82 rfl rfl ?_
      refine wp_iconst (pc := 83) (v := (-1)) dX12_toKeeper_83 (by decide) ?_
      refine wp_icmp_eq (pc := 84) (tgt := 106) dX12_toKeeper_84 (by decide) (fun z => absurd z (nI_m1 (by omega))) (fun _ => ?_)
      refine wp_aload_n (pc := 87) dX12_toKeeper_87 rfl rfl ?_
      refine wp_iload_n (pc := 88) dX12_toKeeper_88 rfl rfl ?_
      refine wp_iload_n (pc := 89) dX12_toKeeper_89 rfl rfl ?_
      refine mp_callV (pc := 90) [_, _] dX12_toKeeper_90 rfl cv_X12_231_13 rfl ⟨(Nat.le_of_ble_eq_true rfl), (Nat.le_of_ble_eq_true rfl)⟩ (Nat.le_of_ble_eq_true rfl) ⟨rfl, rfl⟩ (ms_goes l G x am _ _ _ gA (by omega) (by exact hgA) (by omega) ha) hM hF (fun h hM hF => ?_)
      refine wp_aload_n (pc := 93) dX12_toKeeper_93 rfl rfl ?_
      refine wp_iload_n (pc := 94) dX12_toKeeper_94 rfl rfl ?_
      refine mp_callV (pc := 95) [_] dX12_toKeeper_95 rfl cv_X12_285_13 rfl ⟨(Nat.le_of_ble_eq_true rfl), (Nat.le_of_ble_eq_true rfl)⟩ (Nat.le_of_ble_eq_true rfl) ⟨rfl, rfl⟩ (ms_looks l G x am _ _ (gA - 1) qA k (by omega) (by rw [goM_21, fu_s, hgA, subE (by omega)]) (by omega) (by rw [(goM_same _ t a _).2.1 16 (by decide) (by decide) (by decide) (by decide)]; exact hqA) (by omega) (by rw [(goM_same _ t a _).2.1 20 (by decide) (by decide) (by decide) (by decide)]; exact hcqA) (by rw [(goM_same _ t a _).1]; exact hkA) hk5 (L := LA) (by rw [(goM_same _ t a _).1]; exact hLA) (by omega) (by rw [(goM_same _ t a _).1]; exact hdA)) hM hF (fun h hM hF => ?_)
      refine wp_goto (pc := 98) (tgt := 106) dX12_toKeeper_98 (by decide) ?_
      exact wp_vret (pc := 106) dX12_toKeeper_106 rfl ⟨rfl, by first | (rw [htk, if_neg (by rw [c24]; decide), if_neg (by rw [c24]; decide), if_pos c24]; with_reducible exact hM) | (rw [htk, if_neg (by rw [c24]; decide), if_pos c24]; with_reducible exact hM) | (rw [htk, if_pos c24]; with_reducible exact hM) | (rw [htk, if_neg (sw_ne c24 (by decide)), if_neg (sw_ne c24 (by decide)), if_neg (sw_ne c24 (by decide))]; with_reducible exact hM), hF⟩
    · skip
      refine wp_aload_n (pc := 101) dX12_toKeeper_101 rfl rfl ?_
      refine wp_iload_n (pc := 102) dX12_toKeeper_102 rfl rfl ?_
      refine mp_callV (pc := 103) [_] dX12_toKeeper_103 rfl cv_X12_291_13 rfl ⟨(Nat.le_of_ble_eq_true rfl), (Nat.le_of_ble_eq_true rfl)⟩ (Nat.le_of_ble_eq_true rfl) ⟨rfl, rfl⟩ (ms_rises l G x am _ _ (t := t) (g := gA) (k := k) (by omega) (by exact hgA) (by omega) (by exact htA) (by exact hkA) hk5 (by exact hdA) (L := LA) (by exact hLA) (by omega) (by omega)) hM hF (fun h hM hF => ?_)
      exact wp_vret (pc := 106) dX12_toKeeper_106 rfl ⟨rfl, by first | (rw [htk, if_neg (by rw [c24]; decide), if_neg (by rw [c24]; decide), if_pos c24]; with_reducible exact hM) | (rw [htk, if_neg (by rw [c24]; decide), if_pos c24]; with_reducible exact hM) | (rw [htk, if_pos c24]; with_reducible exact hM) | (rw [htk, if_neg (sw_ne c24 (by decide)), if_neg (sw_ne c24 (by decide)), if_neg (sw_ne c24 (by decide))]; with_reducible exact hM), hF⟩
end M7
