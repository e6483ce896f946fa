/-! ===== the class: put ===== -/
def ptV (M : MS) (what n : Int32) (q : Nat) : Int64 := if what = 3 then M.2.2 25 (20 * nx n + q) else if mayB M q (nx n) = false then 0 else 1
theorem mayB_c {A B : MS} (h1 : A.1 1 = B.1 1) (h10 : A.2.1 10 = B.2.1 10) (h29 : A.2.1 29 = B.2.1 29) (h7 : A.2.1 7 = B.2.1 7) (h8 : A.2.1 8 = B.2.1 8) (h34 : A.2.2 34 = B.2.2 34) (w t : Nat) : mayB A w t = mayB B w t := by
  unfold mayB wClk
  rw [h1, h10, h29, h7, h8, h34]
theorem putB_k (M : MS) (y : Nat) (what n : Int32) {k : Nat} (h : k ≠ 54 ∧ k ≠ 55 ∧ k ≠ 56) : (putB M y what n).2.1 k = M.2.1 k := by
  unfold putB
  simp only
  rw [sI_k _ _ _ h.2.2, sI_k _ _ _ h.2.1, sI_k _ _ _ h.1]
theorem putR_v (M : MS) (y : Nat) (what n : Int32) : ∀ k, (∀ f, f ≠ 57 → (putR M y what n k).2.2 f = M.2.2 f) ∧ ∀ i, (putR M y what n k).2.2 57 i = if 20 * y ≤ i ∧ i < 20 * y + k then ptV M what n (i - 20 * y) else M.2.2 57 i
  | 0 => ⟨fun _ _ => rfl, fun i => by rw [if_neg (by omega)]; rfl⟩
  | k + 1 => by
    obtain ⟨a, b⟩ := putR_v M y what n k
    obtain ⟨p1, p2⟩ := putR_1 M y what n k
    have hv : (if what = 3 then (putR M y what n k).2.2 25 (20 * nx n + k) else if mayB (putR M y what n k) k (nx n) = false then 0 else 1) = ptV M what n k := by
      unfold ptV
      rw [a 25 (by decide), mayB_c (B := M) (by rw [p1]) (by rw [p2, putB_k _ _ _ _ (by decide)]) (by rw [p2, putB_k _ _ _ _ (by decide)]) (by rw [p2, putB_k _ _ _ _ (by decide)]) (by rw [p2, putB_k _ _ _ _ (by decide)]) (a 34 (by decide))]
    refine ⟨fun f hf => ?_, fun i => ?_⟩
    · show (sL (putR M y what n k) 57 _ _).2.2 f = _; rw [sL_k _ _ _ hf]; exact a f hf
    · show (sL (putR M y what n k) 57 (20 * y + k) _).2.2 57 i = _
      rw [sL_at, hv, b i]
      by_cases e : i = 20 * y + k
      · subst e; rw [if_pos ⟨rfl, rfl⟩, if_pos (by omega), show 20 * y + k - 20 * y = k by omega]
      · rw [if_neg (fun z => e z.2)]
        by_cases h1 : 20 * y ≤ i ∧ i < 20 * y + k
        · rw [if_pos h1, if_pos (by omega)]
        · rw [if_neg h1, if_neg (by omega)]
theorem putB_at (M : MS) (y : Nat) (what n : Int32) : (putB M y what n).2.1 54 y = what ∧ (putB M y what n).2.1 55 y = n ∧ (putB M y what n).2.1 56 y = (if what = 3 then M.2.1 21 (nx n) else if what = 4 then M.1 6 else 0) := by
  unfold putB
  simp only [sI_at, true_and, and_true, if_true, and_self, (by decide : ((54 : Nat) = 56) = False), (by decide : ((54 : Nat) = 55) = False), (by decide : ((55 : Nat) = 56) = False), (by decide : ((21 : Nat) = 55) = False), (by decide : ((21 : Nat) = 54) = False), false_and, if_false]
  rfl
theorem put_c2 (M : MS) (y : Nat) (what n : Int32) (k : Nat) : ∀ f i, f ∉ ([54, 55, 56] : List Nat) ∨ i ≠ y → (putR M y what n k).2.1 f i = (sI M 54 y 0).2.1 f i := fun f i hf => by
  have hn : ∀ g, g ∈ ([54, 55, 56] : List Nat) → ¬ (f = g ∧ i = y) := fun g hg z => hf.elim (fun q => q (z.1 ▸ hg)) (fun q => q z.2)
  rw [(putR_1 M y what n k).2]
  simp only [putB, sI_at, hn 54 (by decide), hn 55 (by decide), hn 56 (by decide), if_false]
theorem put_c3 (M : MS) {y : Nat} (what n : Int32) {k : Nat} (hk : k ≤ 20) : ∀ f i, f ≠ 57 ∨ i / 20 ≠ y → (putR M y what n k).2.2 f i = (sI M 54 y 0).2.2 f i := fun f i hf => by
  obtain ⟨a, b⟩ := putR_v M y what n k
  by_cases e : f = 57
  · subst e
    rw [b i, if_neg (fun z => (hf.resolve_left (fun q => q rfl)) (by omega))]; rfl
  · rw [a f e]; rfl
section K34
variable (l : Launch) (G : WG) {hp h : Hp} {A : AD} {M : MS}
theorem c_clear {a : Nat} {v0 v1 v2 v3 : Value} (h : Hp) (ha : h a = some (oB 9 [v0, v1, v2, v3])) : SpN l G mX8_clear [.ref a] h (fun h' => h' a = some (oB 9 [.null, .null, .null, .null]) ∧ ∀ q, q ≠ a → h' q = h q) := by
  refine Sp.intro (lv := [_]) (by decide) rfl (Nat.le_of_ble_eq_true rfl) ?_
  refine wp_widen (rc' := 0) (rs' := 0) (Nat.le_refl _) (Nat.le_refl _) ?_
  have hf : ∀ q, q ≠ a → h q = h q := fun _ _ => rfl
  refine wp_aload_n (pc := 0) dX8_clear_0 rfl rfl ?_
  refine wp_null (pc := 1) dX8_clear_1 ?_
  refine wp_putC (pc := 2) dX8_clear_2 fl_X8_7_9 ha (Or.inl rfl) (Nat.le_of_ble_eq_true rfl) rfl rfl rfl (fun h ha hq2 => ?_)
  have hf := fun q (hq : q ≠ a) => (hq2 q hq).trans (hf q hq)
  refine wp_aload_n (pc := 5) dX8_clear_5 rfl rfl ?_
  refine wp_null (pc := 6) dX8_clear_6 ?_
  refine wp_putC (pc := 7) dX8_clear_7 fl_X8_13_9 ha (Or.inl rfl) (Nat.le_of_ble_eq_true rfl) rfl rfl rfl (fun h ha hq2 => ?_)
  have hf := fun q (hq : q ≠ a) => (hq2 q hq).trans (hf q hq)
  refine wp_aload_n (pc := 10) dX8_clear_10 rfl rfl ?_
  refine wp_null (pc := 11) dX8_clear_11 ?_
  refine wp_putC (pc := 12) dX8_clear_12 fl_X8_17_9 ha (Or.inl rfl) (Nat.le_of_ble_eq_true rfl) rfl rfl rfl (fun h ha hq2 => ?_)
  have hf := fun q (hq : q ≠ a) => (hq2 q hq).trans (hf q hq)
  refine wp_aload_n (pc := 15) dX8_clear_15 rfl rfl ?_
  refine wp_null (pc := 16) dX8_clear_16 ?_
  refine wp_putC (pc := 17) dX8_clear_17 fl_X8_21_9 ha (Or.inl rfl) (Nat.le_of_ble_eq_true rfl) rfl rfl rfl (fun h ha hq2 => ?_)
  have hf := fun q (hq : q ≠ a) => (hq2 q hq).trans (hf q hq)
  exact wp_vret (pc := 20) dX8_clear_20 rfl ⟨rfl, ha, hf⟩
end K34
