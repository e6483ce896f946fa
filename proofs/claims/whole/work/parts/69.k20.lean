/-! ===== a thing's grants, as a list ===== -/
abbrev EN : Type := Int32 × Int32 × Int32 × Int64 × Int64
def ent (M : MS) (t a : Nat) : EN := (M.2.1 22 (20 * t + a), M.2.1 23 (20 * t + a), M.2.1 24 (20 * t + a), M.2.2 25 (20 * t + a), M.2.2 26 (20 * t + a))
def gls (M : MS) (t : Nat) : List EN := (List.range (nx (M.2.1 21 t))).map (ent M t)
theorem gls_get {M : MS} {t i : Nat} (h : i < nx (M.2.1 21 t)) : (gls M t)[i]? = some (ent M t i) := by unfold gls; rw [List.getElem?_map, List.getElem?_range h]; rfl
theorem gls_len (M : MS) (t : Nat) : (gls M t).length = nx (M.2.1 21 t) := by unfold gls; rw [List.length_map, List.length_range]
theorem gls_none {M : MS} {t i : Nat} (h : nx (M.2.1 21 t) ≤ i) : (gls M t)[i]? = none := List.getElem?_eq_none (by rw [gls_len]; exact h)
theorem g1M_ent (M : MS) (t p q : Nat) : ent (g1M M (20 * t + p)) t q = if q = p then ent M t (p + 1) else ent M t q := by
  by_cases h : q = p
  · subst h; rw [if_pos rfl]; simp [ent, g1M, sI, sL, fu, Nat.add_assoc]
  · rw [if_neg h]; simp [ent, g1M, sI, sL, fu, h]
theorem goM_ent (M : MS) (t a : Nat) : ∀ n q, ent (goM M t a n) t q = if a ≤ q ∧ q < a + n then ent M t (q + 1) else ent M t q
  | 0, q => by rw [if_neg (by omega)]; rfl
  | n + 1, q => by
    show ent (g1M (goM M t a n) (20 * t + (a + n))) t q = _
    rw [g1M_ent]
    by_cases h : q = a + n
    · subst h; rw [if_pos rfl, goM_ent M t a n, if_neg (by omega), if_pos (by omega)]
    · rw [if_neg h, goM_ent M t a n]
      by_cases h2 : a ≤ q ∧ q < a + n
      · rw [if_pos h2, if_pos (by omega)]
      · rw [if_neg h2, if_neg (by omega)]
theorem goM_n {M : MS} {t a g : Nat} (n : Nat) (hg : M.2.1 21 t = nI g) (h0 : 0 < g) : (goM M t a n).2.1 21 t = nI (g - 1) := by rw [goM_21, fu_s, hg, subE h0]
theorem gls_go {M : MS} {t a g : Nat} (hg : M.2.1 21 t = nI g) (hg2 : g ≤ 20) (ha : a < g) : gls (goM M t a (g - 1 - a)) t = (gls M t).eraseIdx a := by
  have hn : nx ((goM M t a (g - 1 - a)).2.1 21 t) = g - 1 := by rw [goM_n _ hg (by omega)]; exact nx_nI (by omega)
  have hx : nx (M.2.1 21 t) = g := by rw [hg]; exact nx_nI (by omega)
  apply List.ext_getElem?
  intro i
  rw [List.getElem?_eraseIdx]
  by_cases hi : i < g - 1
  · rw [gls_get (by rw [hn]; exact hi), goM_ent]
    by_cases h1 : i < a
    · rw [if_pos h1, if_neg (by omega), gls_get (by rw [hx]; omega)]
    · rw [if_neg h1, if_pos (by omega), gls_get (by rw [hx]; omega)]
  · rw [gls_none (by rw [hn]; omega)]
    by_cases h1 : i < a
    · omega
    · rw [if_neg h1, gls_none (by rw [hx]; omega)]
/-- all but the grants of t is as it was -/
def sameT (A B : MS) (t : Nat) : Prop := A.1 = B.1 ∧ (∀ f i, f ≠ 21 → f ∉ ([22, 23, 24] : List Nat) ∨ i / 20 ≠ t → A.2.1 f i = B.2.1 f i) ∧ (∀ i, i ≠ t → A.2.1 21 i = B.2.1 21 i) ∧ ∀ f i, f ∉ ([25, 26] : List Nat) ∨ i / 20 ≠ t → A.2.2 f i = B.2.2 f i
theorem sameT.refl (A : MS) (t : Nat) : sameT A A t := ⟨rfl, fun _ _ _ _ => rfl, fun _ _ => rfl, fun _ _ _ => rfl⟩
theorem sameT.tr {A B C : MS} {t : Nat} (h : sameT A B t) (h' : sameT B C t) : sameT A C t := ⟨h.1.trans h'.1, fun f i a b => (h.2.1 f i a b).trans (h'.2.1 f i a b), fun i a => (h.2.2.1 i a).trans (h'.2.2.1 i a), fun f i a => (h.2.2.2 f i a).trans (h'.2.2.2 f i a)⟩
theorem sameT.symm {A B : MS} {t : Nat} (h : sameT A B t) : sameT B A t := ⟨h.1.symm, fun f i a b => (h.2.1 f i a b).symm, fun i a => (h.2.2.1 i a).symm, fun f i a => (h.2.2.2 f i a).symm⟩
theorem g1M_sT (M : MS) {t p : Nat} (hp : p < 20) : sameT (g1M M (20 * t + p)) M t := by
  have hd : (20 * t + p) / 20 = t := by omega
  refine ⟨rfl, fun f i h1 h2 => ?_, fun i h => ?_, fun f i h => ?_⟩
  · have hn : ∀ g, g ∈ ([22, 23, 24] : List Nat) → ¬ (f = g ∧ i = 20 * t + p) := fun g hg z => h2.elim (fun q => q (z.1 ▸ hg)) (fun q => q (by rw [z.2]; exact hd))
    simp only [g1M, sL_1, sI_at, hn 22 (by decide), hn 23 (by decide), hn 24 (by decide), if_false]
  · simp only [g1M, sL_1, sI_at, (by decide : ((21 : Nat) = 22) = False), (by decide : ((21 : Nat) = 23) = False), (by decide : ((21 : Nat) = 24) = False), false_and, if_false]
  · have hn : ∀ g, g ∈ ([25, 26] : List Nat) → ¬ (f = g ∧ i = 20 * t + p) := fun g hg z => h.elim (fun q => q (z.1 ▸ hg)) (fun q => q (by rw [z.2]; exact hd))
    simp only [g1M, sI_2, sL_at, hn 25 (by decide), hn 26 (by decide), if_false]
theorem goM_sT (M : MS) (t a : Nat) : ∀ n, a + n ≤ 20 → sameT (goM M t a n) M t
  | 0, _ => ⟨rfl, fun f i h1 _ => by show (sI M 21 t _).2.1 f i = _; rw [sI_k _ _ _ h1], fun i h => sI_n _ _ _ _ h, fun _ _ _ => rfl⟩
  | n + 1, h => (g1M_sT _ (by omega)).tr (goM_sT M t a n (by omega))
/-- from behind, all that P names goes -/
def bkP (t : Nat) (P : EN → Bool) : Nat → MS → MS
  | 0, M => M
  | n + 1, M => if P (ent M t n) = true then bkP t P n (goM M t n (nx (M.2.1 21 t) - 1 - n)) else bkP t P n M
theorem take_s {l : List EN} {n : Nat} {e : EN} (h : l[n]? = some e) : l.take (n + 1) = l.take n ++ [e] := by rw [List.take_succ, h]; rfl
theorem drop_s {l : List EN} {n : Nat} {e : EN} (h : l[n]? = some e) : l.drop n = e :: l.drop (n + 1) := by
  obtain ⟨h1, h2⟩ := List.getElem?_eq_some_iff.mp h
  rw [List.drop_eq_getElem_cons h1, h2]
theorem er_take (l : List EN) (n : Nat) : (l.eraseIdx n).take n = l.take n := by
  apply List.ext_getElem?
  intro i
  rw [List.getElem?_take, List.getElem?_take, List.getElem?_eraseIdx]
  by_cases h : i < n
  · rw [if_pos h, if_pos h, if_pos h]
  · rw [if_neg h, if_neg h]
theorem er_drop (l : List EN) (n : Nat) : (l.eraseIdx n).drop n = l.drop (n + 1) := by
  apply List.ext_getElem?
  intro i
  rw [List.getElem?_drop, List.getElem?_drop, List.getElem?_eraseIdx, if_neg (by omega)]
  congr 1; omega
theorem bk_sT (t : Nat) (P : EN → Bool) : ∀ n M g, M.2.1 21 t = nI g → g ≤ 20 → n ≤ g → sameT (bkP t P n M) M t ∧ gls (bkP t P n M) t = ((gls M t).take n).filter (fun e => !P e) ++ (gls M t).drop n ∧ ∃ g', g' ≤ 20 ∧ (bkP t P n M).2.1 21 t = nI g'
  | 0, M, g, hg, hg2, _ => ⟨sameT.refl M t, by simp [bkP], g, hg2, hg⟩
  | n + 1, M, g, hg, hg2, hn => by
    have hx : nx (M.2.1 21 t) = g := by rw [hg]; exact nx_nI (by omega)
    have he : (gls M t)[n]? = some (ent M t n) := gls_get (by rw [hx]; omega)
    unfold bkP
    by_cases hP : P (ent M t n) = true
    · rw [if_pos hP, hx]
      obtain ⟨a1, a2, a3⟩ := bk_sT t P n (goM M t n (g - 1 - n)) (g - 1) (goM_n _ hg (by omega)) (by omega) (by omega)
      refine ⟨a1.tr (goM_sT M t n _ (by omega)), ?_, a3⟩
      rw [a2, gls_go hg hg2 (by omega), er_take, er_drop, take_s he, List.filter_append]
      simp [hP]
    · rw [if_neg hP]
      obtain ⟨a1, a2, a3⟩ := bk_sT t P n M g hg hg2 (by omega)
      refine ⟨a1, ?_, a3⟩
      rw [a2, take_s he, List.filter_append, drop_s he]
      simp [hP]
theorem lk_sT (t : Nat) (c : Int64) : ∀ n i M, M.2.1 21 t = nI (i + n) → i + n ≤ 20 → sameT (lkM M t c i n) M t ∧ gls (lkM M t c i n) t = (gls M t).take i ++ ((gls M t).drop i).filter (fun e => !decide (e.2.2.2.2 ≤ c))
  | 0, i, M, hg, hg2 => by
    have hx : nx (M.2.1 21 t) = i := by rw [hg]; exact nx_nI (by omega)
    refine ⟨sameT.refl M t, ?_⟩
    show gls M t = _
    rw [List.take_of_length_le (by rw [gls_len, hx]; exact Nat.le_refl _), List.drop_of_length_le (by rw [gls_len, hx]; exact Nat.le_refl _)]
    simp
  | n + 1, i, M, hg, hg2 => by
    have hx : nx (M.2.1 21 t) = i + (n + 1) := by rw [hg]; exact nx_nI (by omega)
    have he : (gls M t)[i]? = some (ent M t i) := gls_get (by rw [hx]; omega)
    unfold lkM
    by_cases hc : c < M.2.2 26 (20 * t + i)
    · rw [if_pos hc]
      obtain ⟨a1, a2⟩ := lk_sT t c n (i + 1) M (by rw [hg]; congr 1; omega) (by omega)
      refine ⟨a1, ?_⟩
      have hd : decide ((ent M t i).2.2.2.2 ≤ c) = false := decide_eq_false (Int64.not_le.mpr hc)
      rw [a2, take_s he, drop_s he, List.filter_cons, hd]
      simp
    · rw [if_neg hc]
      have hgn : i + (n + 1) - 1 - i = n := by omega
      have hgo := gls_go (a := i) hg (by omega) (by omega)
      rw [hgn] at hgo
      obtain ⟨a1, a2⟩ := lk_sT t c n i (goM M t i n) (by rw [goM_n _ hg (by omega)]; congr 1) (by omega)
      refine ⟨a1.tr (goM_sT M t i _ (by omega)), ?_⟩
      have hd : decide ((ent M t i).2.2.2.2 ≤ c) = true := decide_eq_true (Int64.not_lt.mp hc)
      rw [a2, hgo, er_take, er_drop, drop_s he, List.filter_cons, hd]
      simp
