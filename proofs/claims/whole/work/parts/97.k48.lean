/-! ===== the class: its making ===== -/
section K48A
variable {l : Launch} {G : WG} {μ : MI} {Z : WZ} {pc : Nat} {lv : List (Option Value)} {st : List Value} {h h' h0 : Hp} {a n : Nat} {B B' : Nat → Nat} {fs fs' : List Value}
theorem wp_multiC {idx N M : Nat} {n1 n2 : Int32} {rc rs : Nat} (hd : decode (mC μ) pc = .ok (.multianewarray idx 2, 4)) (hw : Cond.classLink (mY μ).cls idx "[[J" ∈ lw_tbl) (e1 : n1 = nI N) (hN0 : 0 < N) (hN : N ≤ 65536) (e2 : n2 = nI M) (hM : M ≤ 65536)
    (kk : ∀ (a : Nat) (h' : Hp), (∀ q, a ≤ q → h q = none) → h' = mlH h a N M → wp l G μ Z (pc + 4) lv (.ref a :: st) h' rc rs) : wp l G μ Z pc lv (.int n2 :: .int n1 :: st) h (rc + (1 + N)) (rs + (N + N * M)) := wp_multi hd hw e1 hN0 hN e2 hM (fun a ha _ => kk a _ ha rfl)
/-- the constructor's cells, by number: four lists, two rows of six rows, the trays' row, six trays -/
def bS (G : WG) (B : Nat → Nat) (j : Nat) : EC := if j < 4 then oB 0 [.int 0, .ref (gE G), .int (nI 0)] else if j = 4 then aR 6 6 (lstF 6 (fun i => B (5 + i))) else if j < 11 then aJ 20 (fun _ => 0) else if j = 11 then aR 6 6 (lstF 6 (fun i => B (12 + i))) else if j < 18 then aJ 20 (fun _ => 0) else oB 9 [.null, .null, .null, .null]
theorem bS_congr {j : Nat} (hB : ∀ q, q < n → B' q = B q) (hj : j < n) (hn : n ≤ 4 ∨ n = 11 ∨ 18 ≤ n) : bS G B' j = bS G B j := by
  unfold bS
  by_cases c1 : j < 4
  · rw [if_pos c1, if_pos c1]
  · rw [if_neg c1, if_neg c1]
    by_cases c2 : j = 4
    · rw [if_pos c2, if_pos c2]
      exact congrArg (aR 6 6) (lstF_congr fun i hi => hB (5 + i) (by omega))
    · rw [if_neg c2, if_neg c2]
      by_cases c3 : j < 11
      · rw [if_pos c3, if_pos c3]
      · rw [if_neg c3, if_neg c3]
        by_cases c4 : j = 11
        · rw [if_pos c4, if_pos c4]
          exact congrArg (aR 6 6) (lstF_congr fun i hi => hB (12 + i) (by omega))
        · rw [if_neg c4, if_neg c4]
theorem bS_lo {j : Nat} (hj : j < 4) : bS G B j = oB 0 [.int 0, .ref (gE G), .int (nI 0)] := by unfold bS; rw [if_pos hj]
theorem bS_4 : bS G B 4 = aR 6 6 (lstF 6 (fun i => B (5 + i))) := rfl
theorem bS_11 : bS G B 11 = aR 6 6 (lstF 6 (fun i => B (12 + i))) := rfl
theorem bS_5 {j : Nat} (h1 : 4 < j) (h2 : j < 18) (h3 : j ≠ 11) : bS G B j = aJ 20 (fun _ => 0) := by
  unfold bS
  rw [if_neg (by omega), if_neg (by omega)]
  by_cases c3 : j < 11
  · rw [if_pos c3]
  · rw [if_neg c3, if_neg h3, if_pos h2]
theorem bS_hi {j : Nat} (hj : 18 ≤ j) : bS G B j = oB 9 [.null, .null, .null, .null] := by
  unfold bS
  rw [if_neg (by omega), if_neg (by omega), if_neg (by omega), if_neg (by omega), if_neg (by omega)]
/-- the board at a while it is made: n of its cells stand -/
def BI (G : WG) (a n : Nat) (B : Nat → Nat) (fs : List Value) (h0 h : Hp) : Prop := h a = some (oB 12 fs) ∧ (∀ j, j < n → j ≠ 18 → h (B j) = some (bS G B j)) ∧ (∀ j, j < n → B j ≠ a ∧ h0 (B j) = none ∧ h (B j) ≠ none) ∧ (∀ i j, i < n → j < n → B i = B j → i = j) ∧ ∀ q, q ≠ a → h0 q ≠ none → h q = h0 q
theorem BI.fr (hB : BI G a n B fs h0 h) {c : Nat} (hc : h c = none) : c ≠ a ∧ h0 c = none ∧ ∀ j, j < n → B j ≠ c := by
  obtain ⟨b1, b2, b3, b4, b5⟩ := hB
  have hca : c ≠ a := fun z => by rw [z, b1] at hc; cases hc
  refine ⟨hca, ?_, fun j hj z => (b3 j hj).2.2 (by rw [z]; exact hc)⟩
  rcases hh : h0 c with _ | e
  · rfl
  · have := b5 c hca (by rw [hh]; exact fun z => by cases z)
    rw [hc, hh] at this; cases this
theorem BI.add (hB : BI G a n B fs h0 h) (hn : n < 4 ∨ 18 ≤ n) {c : Nat} {e : EC} (hc : h c = none) (he : n = 18 ∨ e = bS G B n) (h1 : h' c = some e) (h2 : ∀ q, q ≠ c → h' q = h q) : BI G a (n + 1) (fu B n c) fs h0 h' := by
  obtain ⟨f1, f2, f3⟩ := hB.fr hc
  obtain ⟨b1, b2, b3, b4, b5⟩ := hB
  have hlo : ∀ q, q < n → fu B n c q = B q := fun q hq => fu_n _ _ (by omega)
  refine ⟨by rw [h2 a (Ne.symm f1)]; exact b1, fun j hj hj18 => ?_, fun j hj => ?_, fun i j hi hj z => ?_, fun q hq hq0 => ?_⟩
  · by_cases z : j = n
    · subst z
      rw [fu_s, h1]
      have he := he.resolve_left hj18
      rw [he]
      rcases hn with z1 | z1
      · rw [bS_lo z1, bS_lo z1]
      · rw [bS_hi z1, bS_hi z1]
    · have hjn : j < n := by omega
      rw [hlo j hjn, h2 _ (f3 j hjn), b2 j hjn hj18, bS_congr hlo hjn (by omega)]
  · by_cases z : j = n
    · subst z; rw [fu_s]; exact ⟨f1, f2, by rw [h1]; exact fun z => by cases z⟩
    · have hjn : j < n := by omega
      rw [hlo j hjn, h2 _ (f3 j hjn)]; exact b3 j hjn
  · by_cases zi : i = n
    · by_cases zj : j = n
      · rw [zi, zj]
      · subst zi; rw [fu_s, hlo j (by omega)] at z; exact absurd z.symm (f3 j (by omega))
    · by_cases zj : j = n
      · subst zj; rw [fu_s, hlo i (by omega)] at z; exact absurd z (f3 i (by omega))
      · rw [hlo i (by omega), hlo j (by omega)] at z; exact b4 i j (by omega) (by omega) z
  · rw [h2 q (fun z => hq0 (by rw [z]; exact f2))]; exact b5 q hq hq0
theorem BI.put (hB : BI G a n B fs h0 h) (h1 : h' a = some (oB 12 fs')) (h2 : ∀ q, q ≠ a → h' q = h q) : BI G a n B fs' h0 h' := by
  obtain ⟨b1, b2, b3, b4, b5⟩ := hB
  exact ⟨h1, fun j hj hj18 => by rw [h2 _ (b3 j hj).1]; exact b2 j hj hj18, fun j hj => by rw [h2 _ (b3 j hj).1]; exact b3 j hj, b4, fun q hq hq0 => by rw [h2 q hq]; exact b5 q hq hq0⟩
theorem BI.row (hB : BI G a n B fs h0 h) (hn : 18 < n) {e : EC} (h1 : h' (B 18) = some e) (h2 : ∀ q, q ≠ B 18 → h' q = h q) : BI G a n B fs h0 h' := by
  obtain ⟨b1, b2, b3, b4, b5⟩ := hB
  obtain ⟨r1, r2, r3⟩ := b3 18 hn
  refine ⟨by rw [h2 a (Ne.symm r1)]; exact b1, fun j hj hj18 => ?_, fun j hj => ?_, b4, fun q hq hq0 => ?_⟩
  · rw [h2 _ (fun z => hj18 (b4 j 18 hj hn z))]; exact b2 j hj hj18
  · refine ⟨(b3 j hj).1, (b3 j hj).2.1, ?_⟩
    by_cases z : B j = B 18
    · rw [z, h1]; exact fun z => by cases z
    · rw [h2 _ z]; exact (b3 j hj).2.2
  · rw [h2 q (fun z => hq0 (by rw [z]; exact r2))]; exact b5 q hq hq0
def bM (B : Nat → Nat) (n c : Nat) : Nat → Nat := fun q => if q < n then B q else c + (q - n)
theorem BI.multi (hB : BI G a n B fs h0 h) (hn : n = 4 ∨ n = 11) {c : Nat} (hc : ∀ q, c ≤ q → h q = none) (he : h' = mlH h c 6 20) : BI G a (n + 7) (bM B n c) fs h0 h' := by
  have f := fun q (hq : c ≤ q) => hB.fr (hc q hq)
  obtain ⟨b1, b2, b3, b4, b5⟩ := hB
  have hlo : ∀ q, q < n → bM B n c q = B q := fun q hq => by unfold bM; rw [if_pos hq]
  have hhi : ∀ q, n ≤ q → bM B n c q = c + (q - n) := fun q hq => by unfold bM; rw [if_neg (by omega)]
  have hot : ∀ q, h q ≠ none → h' q = h q := fun q hq => by
    have hlt : q < c := by
      rcases Nat.lt_or_ge q c with z | z
      · exact z
      · exact absurd (hc q z) hq
    rw [he]; unfold mlH; rw [if_neg (by omega), if_neg (by omega)]
  have h4 : h' c = some (aR 6 6 (lstF 6 (fun i => bM B n c (n + 1 + i)))) := by
    rw [he]; unfold mlH; rw [if_pos rfl]
    refine congrArg (fun z => some (aR 6 6 z)) ?_
    funext j
    unfold lstF
    by_cases hj : j < 6
    · rw [if_pos hj, if_pos hj]
      show some (c + 1 + j) = some (bM B n c (n + 1 + j))
      rw [hhi (n + 1 + j) (by omega), show n + 1 + j - n = 1 + j by omega, Nat.add_assoc]
    · rw [if_neg hj, if_neg hj]
  have h5 : ∀ j, n < j → j < n + 7 → h' (c + (j - n)) = some (aJ 20 (fun _ => 0)) := fun j h1 h2 => by
    rw [he]; unfold mlH; rw [if_neg (by omega), if_pos ⟨by omega, by omega⟩]
  refine ⟨by rw [hot a (by rw [b1]; exact fun z => by cases z)]; exact b1, fun j hj hj18 => ?_, fun j hj => ?_, fun i j hi hj z => ?_, fun q hq hq0 => ?_⟩
  · by_cases z : j < n
    · rw [hlo j z, hot _ (b3 j z).2.2, b2 j z hj18, bS_congr hlo z (by omega)]
    · rw [hhi j (by omega)]
      by_cases y : j = n
      · subst y
        rw [Nat.sub_self, Nat.add_zero, h4]
        rcases hn with rfl | rfl
        · rw [bS_4]
        · rw [bS_11]
      · rw [h5 j (by omega) hj, bS_5 (by omega) (by omega) (by omega)]
  · by_cases z : j < n
    · rw [hlo j z, hot _ (b3 j z).2.2]; exact b3 j z
    · rw [hhi j (by omega)]
      obtain ⟨f1, f2, -⟩ := f (c + (j - n)) (by omega)
      refine ⟨f1, f2, ?_⟩
      by_cases y : j = n
      · rw [y, Nat.sub_self, Nat.add_zero, h4]; exact fun z => by cases z
      · rw [h5 j (by omega) hj]; exact fun z => by cases z
  · by_cases zi : i < n
    · by_cases zj : j < n
      · rw [hlo i zi, hlo j zj] at z; exact b4 i j zi zj z
      · rw [hlo i zi, hhi j (by omega)] at z; exact absurd z ((f (c + (j - n)) (by omega)).2.2 i zi)
    · by_cases zj : j < n
      · rw [hlo j zj, hhi i (by omega)] at z; exact absurd z.symm ((f (c + (i - n)) (by omega)).2.2 j zj)
      · rw [hhi i (by omega), hhi j (by omega)] at z; omega
  · have := b5 q hq hq0
    rw [hot q (by rw [this]; exact hq0)]; exact this
end K48A
theorem drf_eq (d : Int32) : jmax 0 (jmin 100 d) = drf d := by
  have t0 : ((0 : Int32) : Int32).toInt = 0 := by decide
  have t1 : (100 : Int32).toInt = 100 := by decide
  unfold jmax jmin drf
  by_cases h1 : d < 100
  · rw [if_pos h1]
    rw [Int32.lt_iff_toInt_lt] at h1
    by_cases h2 : 0 < d
    · rw [if_pos h2]
      rw [Int32.lt_iff_toInt_lt] at h2
      rw [if_pos (by rw [Int32.le_iff_toInt_le]; omega), if_pos (by rw [Int32.le_iff_toInt_le]; omega)]
    · rw [if_neg h2]
      rw [Int32.lt_iff_toInt_lt] at h2
      by_cases h3 : 0 ≤ d
      · rw [if_pos h3]
        rw [Int32.le_iff_toInt_le] at h3
        rw [if_pos (by rw [Int32.le_iff_toInt_le]; omega)]
        exact Int32.toInt_inj.mp (by omega)
      · rw [if_neg h3]
  · rw [if_neg h1, if_pos (by decide)]
    rw [Int32.lt_iff_toInt_lt] at h1
    rw [if_pos (by rw [Int32.le_iff_toInt_le]; omega)]
    by_cases h3 : d ≤ 100
    · rw [if_pos h3]
      rw [Int32.le_iff_toInt_le] at h3
      exact Int32.toInt_inj.mp (by omega)
    · rw [if_neg h3]
theorem wMA : Cond.classLink "LeaseBoard" 25 "[[J" ∈ lw_tbl := tb1 (List.mem_of_getElem? (i := 57) rfl)
section K48
variable (l : Launch) (G : WG)
theorem c_i8 {a : Nat}  (h : Hp) (ha : h a = some (oB 9 [.null, .null, .null, .null])) : SpN l G mX8_init (.ref a :: []) h (fun h' => h' a = some (oB 9 [.null, .null, .null, .null]) ∧ ∀ q, q ≠ a → h' q = h q) := by
  refine Sp.intro (lv := [_]) (by decide) rfl (Nat.le_of_ble_eq_true rfl) ?_
  refine wp_widen (rc' := 0) (rs' := 0) (Nat.le_refl _) (Nat.le_refl _) ?_
  have hf : ∀ q, q ≠ a → h q = h q := fun _ _ => rfl
  refine wp_aload_n (pc := 0) dX8_init_0 rfl rfl ?_
  refine wp_objInit (pc := 1) dX8_init_1 ob_X8_1 (Nat.le_of_ble_eq_true rfl) ⟨(Nat.le_of_ble_eq_true rfl), (Nat.le_of_ble_eq_true rfl)⟩ ?_
  refine wp_aload_n (pc := 4) dX8_init_4 rfl rfl ?_
  refine wp_null (pc := 5) dX8_init_5 ?_
  refine wp_putC (pc := 6) dX8_init_6 fl_X8_7_9 ha (Or.inl rfl) (Nat.le_of_ble_eq_true rfl) rfl rfl rfl (fun h ha hq2 => ?_)
  have hf := fun q (hq : q ≠ a) => (hq2 q hq).trans (hf q hq)
  refine wp_aload_n (pc := 9) dX8_init_9 rfl rfl ?_
  refine wp_null (pc := 10) dX8_init_10 ?_
  refine wp_putC (pc := 11) dX8_init_11 fl_X8_13_9 ha (Or.inl rfl) (Nat.le_of_ble_eq_true rfl) rfl rfl rfl (fun h ha hq2 => ?_)
  have hf := fun q (hq : q ≠ a) => (hq2 q hq).trans (hf q hq)
  refine wp_aload_n (pc := 14) dX8_init_14 rfl rfl ?_
  refine wp_null (pc := 15) dX8_init_15 ?_
  refine wp_putC (pc := 16) dX8_init_16 fl_X8_17_9 ha (Or.inl rfl) (Nat.le_of_ble_eq_true rfl) rfl rfl rfl (fun h ha hq2 => ?_)
  have hf := fun q (hq : q ≠ a) => (hq2 q hq).trans (hf q hq)
  refine wp_aload_n (pc := 19) dX8_init_19 rfl rfl ?_
  refine wp_null (pc := 20) dX8_init_20 ?_
  refine wp_putC (pc := 21) dX8_init_21 fl_X8_21_9 ha (Or.inl rfl) (Nat.le_of_ble_eq_true rfl) rfl rfl rfl (fun h ha hq2 => ?_)
  have hf := fun q (hq : q ≠ a) => (hq2 q hq).trans (hf q hq)
  exact wp_vret (pc := 24) dX8_init_24 rfl ⟨rfl, ha, hf⟩
theorem cM9 : canSt 5 9 := ⟨(RX8, TX8, 4), "LeaseBoard$Tray", rfl, rfl, Or.inl rfl⟩
theorem c_i11 {a : Nat} {d : Int32} (h0 : Hp) (ha : h0 a = some (oB 12 [.int 0, .null, .null, .null, .null, .null, .null, .null, .int 0, .int 0, .int 0, .int 0, .int 0, .int 0, .int 0, .int 0, .int 0, .int 0])) : SpN l G mX11_init [.ref a, .int d] h0 (fun h' => ∃ B : Nat → Nat, BI G a 25 B [.int (drf d), .ref (B 0), .ref (B 1), .ref (B 2), .ref (B 3), .ref (B 4), .ref (B 11), .ref (B 18), .int 0, .int 0, .int (-1), .int 0, .int 0, .int 0, .int 0, .int 0, .int 0, .int 0] h0 h' ∧ h' (B 18) = some (aR 5 6 (lstF 6 (fun j => B (19 + j))))) := by
  refine Sp.intro (lv := [_, _, _]) (by decide) rfl (Nat.le_of_ble_eq_true rfl) ?_
  refine wp_widen (rc' := 25) (rs' := 294) (Nat.le_refl _) (Nat.le_refl _) ?_
  generalize hQ0 : (fun (w : Option Value) (h' : Hp) => w = none ∧ ∃ B : Nat → Nat, BI G a 25 B [.int (drf d), .ref (B 0), .ref (B 1), .ref (B 2), .ref (B 3), .ref (B 4), .ref (B 11), .ref (B 18), .int 0, .int 0, .int (-1), .int 0, .int 0, .int 0, .int 0, .int 0, .int 0, .int 0] h0 h' ∧ h' (B 18) = some (aR 5 6 (lstF 6 (fun j => B (19 + j))))) = Q0
  obtain ⟨h, hB⟩ : ∃ h, h = h0 ∧ BI G a 0 (fun _ => 0) [.int 0, .null, .null, .null, .null, .null, .null, .null, .int 0, .int 0, .int 0, .int 0, .int 0, .int 0, .int 0, .int 0, .int 0, .int 0] h0 h := ⟨h0, rfl, ha, fun j hj => absurd hj (by omega), fun j hj => absurd hj (by omega), fun j _ hj => absurd hj (by omega), fun _ _ _ => rfl⟩
  obtain ⟨hh, hB⟩ := hB
  rw [← hh]
  clear hh ha
  refine wp_aload_n (pc := 0) dX11_init_0 rfl rfl ?_
  refine wp_objInit (pc := 1) dX11_init_1 ob_X11_1 (Nat.le_of_ble_eq_true rfl) ⟨(Nat.le_of_ble_eq_true rfl), (Nat.le_of_ble_eq_true rfl)⟩ ?_
  refine wp_aload_n (pc := 4) dX11_init_4 rfl rfl ?_
  refine wp_newC (pc := 5) (rc := 24) (rs := 291) (ci := 0) (N := 3) (fs := [.int 0, .null, .int 0]) dX11_init_5 nw_X11_7 rfl nd_0 (fun c0 h c0n c0c c0f => ?_)
  refine wp_dup (pc := 8) dX11_init_8 rfl ?_
  refine wc_IN (pc := 9) (μ2 := mJx4a65c_init_da8c8) (rc := 24) (rs := 291) [] dX11_init_9 rfl cc_X11_9 rfl ⟨(Nat.le_of_ble_eq_true rfl), (Nat.le_of_ble_eq_true rfl)⟩ (Nat.le_of_ble_eq_true rfl) (j_init l G _ c0c) (fun h q => ?_)
  obtain ⟨q1, q2⟩ := q
  have hB := hB.add (c := c0) (Or.inl (by decide)) c0n (Or.inr rfl) q1 (fun q hq => (q2 q hq).trans (c0f q hq))
  refine wp_putC (pc := 12) dX11_init_12 fl_X11_10_12 hB.1 (Or.inr ⟨rfl, rfl, rfl⟩) (Nat.le_of_ble_eq_true rfl) rfl rfl rfl (fun h hq1 hq2 => ?_)
  have hB := hB.put hq1 hq2
  refine wp_aload_n (pc := 15) dX11_init_15 rfl rfl ?_
  refine wp_newC (pc := 16) (rc := 23) (rs := 288) (ci := 0) (N := 3) (fs := [.int 0, .null, .int 0]) dX11_init_16 nw_X11_7 rfl nd_0 (fun c1 h c1n c1c c1f => ?_)
  refine wp_dup (pc := 19) dX11_init_19 rfl ?_
  refine wc_IN (pc := 20) (μ2 := mJx4a65c_init_da8c8) (rc := 23) (rs := 288) [] dX11_init_20 rfl cc_X11_9 rfl ⟨(Nat.le_of_ble_eq_true rfl), (Nat.le_of_ble_eq_true rfl)⟩ (Nat.le_of_ble_eq_true rfl) (j_init l G _ c1c) (fun h q => ?_)
  obtain ⟨q1, q2⟩ := q
  have hB := hB.add (c := c1) (Or.inl (by decide)) c1n (Or.inr rfl) q1 (fun q hq => (q2 q hq).trans (c1f q hq))
  refine wp_putC (pc := 23) dX11_init_23 fl_X11_16_12 hB.1 (Or.inr ⟨rfl, rfl, rfl⟩) (Nat.le_of_ble_eq_true rfl) rfl rfl rfl (fun h hq1 hq2 => ?_)
  have hB := hB.put hq1 hq2
  refine wp_aload_n (pc := 26) dX11_init_26 rfl rfl ?_
  refine wp_newC (pc := 27) (rc := 22) (rs := 285) (ci := 0) (N := 3) (fs := [.int 0, .null, .int 0]) dX11_init_27 nw_X11_7 rfl nd_0 (fun c2 h c2n c2c c2f => ?_)
  refine wp_dup (pc := 30) dX11_init_30 rfl ?_
  refine wc_IN (pc := 31) (μ2 := mJx4a65c_init_da8c8) (rc := 22) (rs := 285) [] dX11_init_31 rfl cc_X11_9 rfl ⟨(Nat.le_of_ble_eq_true rfl), (Nat.le_of_ble_eq_true rfl)⟩ (Nat.le_of_ble_eq_true rfl) (j_init l G _ c2c) (fun h q => ?_)
  obtain ⟨q1, q2⟩ := q
  have hB := hB.add (c := c2) (Or.inl (by decide)) c2n (Or.inr rfl) q1 (fun q hq => (q2 q hq).trans (c2f q hq))
  refine wp_putC (pc := 34) dX11_init_34 fl_X11_19_12 hB.1 (Or.inr ⟨rfl, rfl, rfl⟩) (Nat.le_of_ble_eq_true rfl) rfl rfl rfl (fun h hq1 hq2 => ?_)
  have hB := hB.put hq1 hq2
  refine wp_aload_n (pc := 37) dX11_init_37 rfl rfl ?_
  refine wp_newC (pc := 38) (rc := 21) (rs := 282) (ci := 0) (N := 3) (fs := [.int 0, .null, .int 0]) dX11_init_38 nw_X11_7 rfl nd_0 (fun c3 h c3n c3c c3f => ?_)
  refine wp_dup (pc := 41) dX11_init_41 rfl ?_
  refine wc_IN (pc := 42) (μ2 := mJx4a65c_init_da8c8) (rc := 21) (rs := 282) [] dX11_init_42 rfl cc_X11_9 rfl ⟨(Nat.le_of_ble_eq_true rfl), (Nat.le_of_ble_eq_true rfl)⟩ (Nat.le_of_ble_eq_true rfl) (j_init l G _ c3c) (fun h q => ?_)
  obtain ⟨q1, q2⟩ := q
  have hB := hB.add (c := c3) (Or.inl (by decide)) c3n (Or.inr rfl) q1 (fun q hq => (q2 q hq).trans (c3f q hq))
  refine wp_putC (pc := 45) dX11_init_45 fl_X11_22_12 hB.1 (Or.inr ⟨rfl, rfl, rfl⟩) (Nat.le_of_ble_eq_true rfl) rfl rfl rfl (fun h hq1 hq2 => ?_)
  have hB := hB.put hq1 hq2
  refine wp_aload_n (pc := 48) dX11_init_48 rfl rfl ?_
  refine wp_bipush (pc := 49) (v := 6) dX11_init_49 (by decide) ?_
  refine wp_bipush (pc := 51) (v := 20) dX11_init_51 (by decide) ?_
  refine wp_multiC (pc := 53) (N := 6) (M := 20) (rc := 14) (rs := 156) dX11_init_53 wMA rfl (by decide) (by decide) rfl (by decide) (fun g h gn ge => ?_)
  have hB := hB.multi (Or.inl rfl) gn ge
  refine wp_putC (pc := 57) dX11_init_57 fl_X11_27_12 hB.1 (Or.inr ⟨rfl, rfl, rfl⟩) (Nat.le_of_ble_eq_true rfl) rfl rfl rfl (fun h hq1 hq2 => ?_)
  have hB := hB.put hq1 hq2
  refine wp_aload_n (pc := 60) dX11_init_60 rfl rfl ?_
  refine wp_bipush (pc := 61) (v := 6) dX11_init_61 (by decide) ?_
  refine wp_bipush (pc := 63) (v := 20) dX11_init_63 (by decide) ?_
  refine wp_multiC (pc := 65) (N := 6) (M := 20) (rc := 7) (rs := 30) dX11_init_65 wMA rfl (by decide) (by decide) rfl (by decide) (fun w h wn we => ?_)
  have hB := hB.multi (Or.inr rfl) wn we
  refine wp_putC (pc := 69) dX11_init_69 fl_X11_30_12 hB.1 (Or.inr ⟨rfl, rfl, rfl⟩) (Nat.le_of_ble_eq_true rfl) rfl rfl rfl (fun h hq1 hq2 => ?_)
  have hB := hB.put hq1 hq2
  refine wp_aload_n (pc := 72) dX11_init_72 rfl rfl ?_
  refine wp_bipush (pc := 73) (v := 6) dX11_init_73 (by decide) ?_
  refine wp_newqC (pc := 75) (k := 5) (N := 6) (rc := 6) (rs := 24) (Or.inr (Or.inr rfl)) rfl dX11_init_75 w1_59 rfl (by decide) (fun t h tn tc tf => ?_)
  have hB := hB.add (c := t) (Or.inr (Nat.le_refl _)) tn (Or.inl rfl) tc tf
  have hT : h (fu (bM (bM (fu (fu (fu (fu (fun _ => 0) 0 c0) 1 c1) 2 c2) 3 c3) 4 g) 11 w) 18 t 18) = some (aR 5 6 (fun _ => none)) := tc
  refine wp_putC (pc := 78) dX11_init_78 fl_X11_35_12 hB.1 (Or.inr ⟨rfl, rfl, rfl⟩) (Nat.le_of_ble_eq_true rfl) rfl rfl rfl (fun h hq1 hq2 => ?_)
  have hT := (hq2 _ (hB.2.2.1 18 (by decide)).1).trans hT
  have hB := hB.put hq1 hq2
  obtain ⟨B, hB, hT, b0, b1, b2, b3, b4, b11, b18⟩ : ∃ B : Nat → Nat, BI G a 19 B [.int 0, .ref c0, .ref c1, .ref c2, .ref c3, .ref g, .ref w, .ref t, .int 0, .int 0, .int 0, .int 0, .int 0, .int 0, .int 0, .int 0, .int 0, .int 0] h0 h ∧ h (B 18) = some (aR 5 6 (fun _ => none)) ∧ B 0 = c0 ∧ B 1 = c1 ∧ B 2 = c2 ∧ B 3 = c3 ∧ B 4 = g ∧ B 11 = w ∧ B 18 = t := ⟨_, hB, hT, rfl, rfl, rfl, rfl, rfl, rfl, rfl⟩
  rw [← b0, ← b1, ← b2, ← b3, ← b4, ← b11, ← b18] at hB
  clear b0 b1 b2 b3 b4 b11 b18
  refine wp_aload_n (pc := 81) dX11_init_81 rfl rfl ?_
  refine wp_iconst (pc := 82) (v := 0) dX11_init_82 (by decide) ?_
  refine wp_putC (pc := 83) dX11_init_83 fl_X11_39_12 hB.1 (Or.inl rfl) (Nat.le_of_ble_eq_true rfl) rfl rfl rfl (fun h hq1 hq2 => ?_)
  have hT := (hq2 _ (hB.2.2.1 18 (by decide)).1).trans hT
  have hB := hB.put hq1 hq2
  refine wp_aload_n (pc := 86) dX11_init_86 rfl rfl ?_
  refine wp_iconst (pc := 87) (v := 0) dX11_init_87 (by decide) ?_
  refine wp_putC (pc := 88) dX11_init_88 fl_X11_43_12 hB.1 (Or.inl rfl) (Nat.le_of_ble_eq_true rfl) rfl rfl rfl (fun h hq1 hq2 => ?_)
  have hT := (hq2 _ (hB.2.2.1 18 (by decide)).1).trans hT
  have hB := hB.put hq1 hq2
  refine wp_aload_n (pc := 91) dX11_init_91 rfl rfl ?_
  refine wp_iconst (pc := 92) (v := (-1)) dX11_init_92 (by decide) ?_
  refine wp_putC (pc := 93) dX11_init_93 fl_X11_46_12 hB.1 (Or.inl rfl) (Nat.le_of_ble_eq_true rfl) rfl rfl rfl (fun h hq1 hq2 => ?_)
  have hT := (hq2 _ (hB.2.2.1 18 (by decide)).1).trans hT
  have hB := hB.put hq1 hq2
  refine wp_aload_n (pc := 96) dX11_init_96 rfl rfl ?_
  refine wp_iconst (pc := 97) (v := 0) dX11_init_97 (by decide) ?_
  refine wp_putC (pc := 98) dX11_init_98 fl_X11_49_12 hB.1 (Or.inl rfl) (Nat.le_of_ble_eq_true rfl) rfl rfl rfl (fun h hq1 hq2 => ?_)
  have hT := (hq2 _ (hB.2.2.1 18 (by decide)).1).trans hT
  have hB := hB.put hq1 hq2
  refine wp_aload_n (pc := 101) dX11_init_101 rfl rfl ?_
  refine wp_iconst (pc := 102) (v := 0) dX11_init_102 (by decide) ?_
  refine wp_putC (pc := 103) dX11_init_103 fl_X11_52_12 hB.1 (Or.inl rfl) (Nat.le_of_ble_eq_true rfl) rfl rfl rfl (fun h hq1 hq2 => ?_)
  have hT := (hq2 _ (hB.2.2.1 18 (by decide)).1).trans hT
  have hB := hB.put hq1 hq2
  refine wp_aload_n (pc := 106) dX11_init_106 rfl rfl ?_
  refine wp_iconst (pc := 107) (v := 0) dX11_init_107 (by decide) ?_
  refine wp_putC (pc := 108) dX11_init_108 fl_X11_55_12 hB.1 (Or.inl rfl) (Nat.le_of_ble_eq_true rfl) rfl rfl rfl (fun h hq1 hq2 => ?_)
  have hT := (hq2 _ (hB.2.2.1 18 (by decide)).1).trans hT
  have hB := hB.put hq1 hq2
  refine wp_aload_n (pc := 111) dX11_init_111 rfl rfl ?_
  refine wp_iconst (pc := 112) (v := 0) dX11_init_112 (by decide) ?_
  refine wp_putC (pc := 113) dX11_init_113 fl_X11_58_12 hB.1 (Or.inl rfl) (Nat.le_of_ble_eq_true rfl) rfl rfl rfl (fun h hq1 hq2 => ?_)
  have hT := (hq2 _ (hB.2.2.1 18 (by decide)).1).trans hT
  have hB := hB.put hq1 hq2
  refine wp_aload_n (pc := 116) dX11_init_116 rfl rfl ?_
  refine wp_iconst (pc := 117) (v := 0) dX11_init_117 (by decide) ?_
  refine wp_putC (pc := 118) dX11_init_118 fl_X11_61_12 hB.1 (Or.inl rfl) (Nat.le_of_ble_eq_true rfl) rfl rfl rfl (fun h hq1 hq2 => ?_)
  have hT := (hq2 _ (hB.2.2.1 18 (by decide)).1).trans hT
  have hB := hB.put hq1 hq2
  refine wp_aload_n (pc := 121) dX11_init_121 rfl rfl ?_
  refine wp_iconst (pc := 122) (v := 0) dX11_init_122 (by decide) ?_
  refine wp_putC (pc := 123) dX11_init_123 fl_X11_64_12 hB.1 (Or.inl rfl) (Nat.le_of_ble_eq_true rfl) rfl rfl rfl (fun h hq1 hq2 => ?_)
  have hT := (hq2 _ (hB.2.2.1 18 (by decide)).1).trans hT
  have hB := hB.put hq1 hq2
  refine wp_aload_n (pc := 126) dX11_init_126 rfl rfl ?_
  refine wp_iconst (pc := 127) (v := 0) dX11_init_127 (by decide) ?_
  refine wp_putC (pc := 128) dX11_init_128 fl_X11_67_12 hB.1 (Or.inl rfl) (Nat.le_of_ble_eq_true rfl) rfl rfl rfl (fun h hq1 hq2 => ?_)
  have hT := (hq2 _ (hB.2.2.1 18 (by decide)).1).trans hT
  have hB := hB.put hq1 hq2
  refine wp_aload_n (pc := 131) dX11_init_131 rfl rfl ?_
  refine wp_iconst (pc := 132) (v := 0) dX11_init_132 (by decide) ?_
  refine wp_bipush (pc := 133) (v := 100) dX11_init_133 (by decide) ?_
  refine wp_iload_n (pc := 135) dX11_init_135 rfl rfl ?_
  refine wc_SP (pc := 136) (μ2 := mJ9_min_7cf53) (rc := 6) (rs := 24) [_, _] dX11_init_136 rfl cs_X11_70 rfl ⟨(Nat.le_of_ble_eq_true rfl), (Nat.le_of_ble_eq_true rfl)⟩ (Nat.le_of_ble_eq_true rfl) (j_min l G _ _ _) ?_
  refine wc_SP (pc := 139) (μ2 := mJ9_max_7cf53) (rc := 6) (rs := 24) [_, _] dX11_init_139 rfl cs_X11_76 rfl ⟨(Nat.le_of_ble_eq_true rfl), (Nat.le_of_ble_eq_true rfl)⟩ (Nat.le_of_ble_eq_true rfl) (j_max l G _ _ _) ?_
  refine wp_putC (pc := 142) dX11_init_142 fl_X11_79_12 hB.1 (Or.inr ⟨rfl, rfl, rfl⟩) (Nat.le_of_ble_eq_true rfl) rfl rfl rfl (fun h hq1 hq2 => ?_)
  have hT := (hq2 _ (hB.2.2.1 18 (by decide)).1).trans hT
  have hB := hB.put hq1 hq2
  refine wp_iconst (pc := 145) (v := 0) dX11_init_145 (by decide) ?_
  refine wp_istore_n (pc := 146) (lv' := [_, _, _]) dX11_init_146 rfl (Nat.le_of_ble_eq_true rfl) rfl rfl ?_
  rw [drf_eq] at hB
  have loop : ∀ i, i ≤ 6 → ∀ (h1 : Hp) (B1 : Nat → Nat), BI G a (19 + i) B1 [.int (drf d), .ref (B 0), .ref (B 1), .ref (B 2), .ref (B 3), .ref (B 4), .ref (B 11), .ref (B 18), .int 0, .int 0, .int (-1), .int 0, .int 0, .int 0, .int 0, .int 0, .int 0, .int 0] h0 h1 → (∀ q, q < 19 → B1 q = B q) → h1 (B1 18) = some (aR 5 6 (lstF i (fun j => B1 (19 + j)))) → wp l G mX11_init (zM G mX11_init Q0) 147 [some (.ref a), some (.int d), some (.int (nI i))] [] h1 (6 - i) (4 * (6 - i)) := by
    clear hB hT
    refine loopU _ 6 (fun i hi ih => ?_) ?_
    · intro h B1 hB hq hT
      have e18 : B1 18 = B 18 := hq 18 (by decide)
      rw [e18] at hT
      rw [show 6 - i = (5 - i) + 1 by omega, show 4 * ((5 - i) + 1) = 4 * (5 - i) + 4 by omega]
      rw [show 6 - (i + 1) = 5 - i by omega] at ih
      refine wp_iload_n (pc := 147) dX11_init_147 rfl rfl ?_
      refine wp_aload_n (pc := 148) dX11_init_148 rfl rfl ?_
      refine wp_get (pc := 149) dX11_init_149 fl_X11_35_12 hB.1 rfl ?_
      refine wp_alen (k := 5) (pc := 152) (by decide) dX11_init_152 hT ?_
      refine wp_icmp_ge (pc := 153) (tgt := 175) dX11_init_153 (by decide) (fun z => absurd z (nI_ge (b := 6) hi (by decide))) (fun _ => ?_)
      refine wp_aload_n (pc := 156) dX11_init_156 rfl rfl ?_
      refine wp_get (pc := 157) dX11_init_157 fl_X11_35_12 hB.1 rfl ?_
      refine wp_iload_n (pc := 160) dX11_init_160 rfl rfl ?_
      refine wp_newC (pc := 161) (rc := 5 - i) (rs := 4 * (5 - i)) (ci := 9) (fs := [.null, .null, .null, .null]) dX11_init_161 nw_X11_33 rfl nd_9 (fun x h xn xc xf => ?_)
      have hxT : B 18 ≠ x := fun z => by rw [z, xn] at hT; cases hT
      refine wp_dup (pc := 164) dX11_init_164 rfl ?_
      refine wc_NN (pc := 165) (μ2 := mX8_init) (rc := 5 - i) (rs := 4 * (5 - i)) [] dX11_init_165 rfl cn_X11_82 rfl ⟨(Nat.le_of_ble_eq_true rfl), (Nat.le_of_ble_eq_true rfl)⟩ (Nat.le_of_ble_eq_true rfl) (c_i8 l G _ xc) (fun h q => ?_)
      obtain ⟨xc, xf2⟩ := q
      have xf := fun q (hq : q ≠ x) => (xf2 q hq).trans (xf q hq)
      have hT := (xf _ hxT).trans hT
      have hB := hB.add (c := x) (Or.inr (by omega)) xn (Or.inr (bS_hi (by omega)).symm) xc xf
      refine wp_aastC (pc := 168) (i := i) (Or.inr (Or.inr rfl)) dX11_init_168 hT ⟨rfl, hi, by decide⟩ xc cM9 (fun h hq1 hq2 => ?_)
      rw [lstF_add] at hq1
      refine wp_iinc (pc := 169) (v := _ + 1) (lv' := [_, _, _]) dX11_init_169 rfl rfl rfl rfl ?_
      refine wp_goto (pc := 172) (tgt := 147) dX11_init_172 (by decide) ?_
      have f18 : fu B1 (19 + i) x 18 = B 18 := (fu_n _ _ (by omega)).trans e18
      refine wp_lv (ih h (fu B1 (19 + i) x) (BI.row (by rw [Nat.add_assoc] at hB; exact hB) (by omega) (by rw [f18]; exact hq1) (by rw [f18]; exact hq2)) (fun q hq9 => (fu_n _ _ (by omega)).trans (hq q hq9)) ?_) (by simp [nI_1])
      rw [f18, hq1]
      refine congrArg (fun z => some (aR 5 6 z)) (lstF_congr fun j hj => ?_)
      by_cases z : j = i
      · subst z; rw [fu_s, fu_s]
      · rw [fu_n _ _ z, fu_n _ _ (by omega)]
    · intro h B1 hB hq hT
      have e18 : B1 18 = B 18 := hq 18 (by decide)
      rw [e18] at hT
      refine wp_iload_n (pc := 147) dX11_init_147 rfl rfl ?_
      refine wp_aload_n (pc := 148) dX11_init_148 rfl rfl ?_
      refine wp_get (pc := 149) dX11_init_149 fl_X11_35_12 hB.1 rfl ?_
      refine wp_alen (k := 5) (pc := 152) (by decide) dX11_init_152 hT ?_
      refine wp_icmp_ge (pc := 153) (tgt := 175) dX11_init_153 (by decide) (fun _ => ?_) (fun z => absurd (by decide) z)
      exact wp_vret (pc := 175) dX11_init_175 rfl (by rw [← hQ0]; exact ⟨rfl, B1, by rw [hq 0 (by decide), hq 1 (by decide), hq 2 (by decide), hq 3 (by decide), hq 4 (by decide), hq 11 (by decide), e18]; exact hB, by rw [e18]; exact hT⟩)
  exact loop 0 (Nat.zero_le _) h B hB (fun _ _ => rfl) (by rw [lstF_0]; exact hT)
end K48
