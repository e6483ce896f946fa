/-! ===== class and reference side by side; the law's rules ===== -/
def amL (am : Nat → Nat) : List Nat := ((List.range 59).filter (fun k => isArr k)).map am
theorem mem_amL {am : Nat → Nat} {q : Nat} : q ∈ amL am ↔ ∃ k, isArr k = true ∧ q = am k := by
  unfold amL
  rw [List.mem_map]
  constructor
  · rintro ⟨k, hk, rfl⟩
    exact ⟨k, (List.mem_filter.mp hk).2, rfl⟩
  · rintro ⟨k, hk, rfl⟩
    exact ⟨k, List.mem_filter.mpr ⟨List.mem_range.mpr (arr59 hk), hk⟩, rfl⟩
/-- the reference's cells, and ArrayList's empty row, as the class may not touch them -/
def hpm (G : WG) (x : Nat) (am : Nat → Nat) (h : Hp) : Hp := fun q => if q = gE G then some e_nil else if q = x ∨ q ∈ amL am then h q else none
/-- the board at a and the reference at x stand for the same state -/
def JJ (G : WG) (a x : Nat) (am : Nat → Nat) (M : MS) (h : Hp) : Prop := InM x am M h ∧ (x ≠ gE G ∧ ∀ k, isArr k = true → am k ≠ gE G) ∧ KI G (hpm G x am h) a M h
section K50A
variable {G : WG} {a x : Nat} {am : Nat → Nat} {M M' : MS} {h h1 h2 : Hp}
theorem hpm_x (hx : x ≠ gE G) : hpm G x am h x = h x := by unfold hpm; rw [if_neg hx, if_pos (Or.inl rfl)]
theorem hpm_a {k : Nat} (hk : isArr k = true) (ha : am k ≠ gE G) : hpm G x am h (am k) = h (am k) := by unfold hpm; rw [if_neg ha, if_pos (Or.inr (mem_amL.mpr ⟨k, hk, rfl⟩))]
theorem hpm_e : hpm G x am h (gE G) = some e_nil := by unfold hpm; rw [if_pos rfl]
theorem JJ.mid (hJ : JJ G a x am M h) (hK : KI G (hpm G x am h) a M' h1) : InM x am M h1 := by
  obtain ⟨⟨m1, m2, m3, m4⟩, ⟨g1, g2⟩, -⟩ := hJ
  obtain ⟨-, A, hR, -⟩ := hK
  refine ⟨?_, fun k hk => ?_, m3, m4⟩
  · exact hR.pr (by rw [hpm_x g1]; exact m1)
  · exact hR.pr (by rw [hpm_a hk (g2 k hk)]; exact m2 k hk)
theorem JJ.step (hJ : JJ G a x am M h) (hK : KI G (hpm G x am h) a M' h1) (hM : InM x am M' h2) (hF : Fr x am h1 h2) : JJ G a x am M' h2 := by
  obtain ⟨⟨m1, m2, m3, m4⟩, ⟨g1, g2⟩, -⟩ := hJ
  obtain ⟨hI, A, ⟨r1, r2, r3, r4, r5, r6⟩, hA⟩ := hK
  have nx1 : ∀ k i, vld A M' k i → A.1 k i ≠ x := (r3 x _ (by rw [hpm_x g1]; exact m1)).2
  have na : ∀ j, isArr j = true → ∀ k i, vld A M' k i → A.1 k i ≠ am j := fun j hj => (r3 (am j) _ (by rw [hpm_a hj (g2 j hj)]; exact m2 j hj)).2
  have ne : ∀ k i, vld A M' k i → A.1 k i ≠ gE G := (r3 (gE G) _ hpm_e).2
  refine ⟨hM, ⟨g1, g2⟩, hI, A, ⟨fun k i hv => ?_, r2, fun q e hq => ?_, hpm_e, r5, r6⟩, hA⟩
  · rw [hF _ (nx1 k i hv) (fun j hj => na j hj k i hv)]; exact r1 k i hv
  · unfold hpm at hq
    by_cases c1 : q = gE G
    · rw [if_pos c1] at hq
      subst c1
      cases hq
      exact ⟨by rw [hF _ (Ne.symm g1) (fun j hj => Ne.symm (g2 j hj))]; exact (r3 _ _ hpm_e).1, ne⟩
    · rw [if_neg c1] at hq
      by_cases c2 : q = x ∨ q ∈ amL am
      · rw [if_pos c2] at hq
        refine ⟨hq, ?_⟩
        rcases c2 with c2 | c2
        · rw [c2]; exact nx1
        · obtain ⟨j, hj, rfl⟩ := mem_amL.mp c2
          exact na j hj
      · rw [if_neg c2] at hq; cases hq
theorem JJ.cell (hJ : JJ G a x am M h) : ∃ fs, h a = some (oB 12 fs) := by
  obtain ⟨-, -, -, A, hR, rfl⟩ := hJ
  exact ⟨_, hR.at (k := 0) (i := 0) rfl⟩
end K50A
/-- the law, as a method; its name doesn't matter -/
abbrev mLaw (nm : String) : MI := (⟨RL, nm, ""⟩, code, 4, ret, room_1)
theorem vw12 : vwCl[12]? = some (RX11, TX11, 18) := rfl
section K50B
variable {l : Launch} {G : WG} {μ : MI} {Z : WZ} {pc : Nat} {lv : List (Option Value)} {st st0 : List Value} {h h1 : Hp} {rc rs a x : Nat} {am : Nat → Nat} {M M' : MS}
theorem lw_callC {μ2 : MI} {idx n : Nat} {v : Value} (As : List Value) (hd : decode (mC μ) pc = .ok (.invokevirtual idx, 3)) (hst : st0 = As.reverse ++ .ref a :: st) (cv : CV (mY μ).cls idx RX11 μ2 n) (hn9 : As.length = n) (hf : fitM μ2 μ) (hw : (st.map fun v => v.category).sum ≤ 8) (hJ : JJ G a x am M h) (hS : SpV l G μ2 (.ref a :: As) h (fun r9 h' => r9 = v ∧ KI G (hpm G x am h) a M' h'))
    (kk : ∀ h1 : Hp, InM x am M h1 → KI G (hpm G x am h) a M' h1 → wp l G μ Z (pc + 3) lv (v :: st) h1 rc rs) : wp l G μ Z pc lv st0 h (rc + (mR μ2).cells) (rs + (mR μ2).slots) := by
  obtain ⟨fs, hc⟩ := hJ.cell
  exact wp_callV (rc := rc) (rs := rs) (Z := Z) (lv := lv) As hd hst hc vw12 cv hn9 hf hw hS (fun w h' q => by obtain ⟨r, rfl, rfl, q2⟩ := q; exact kk h' (hJ.mid q2) q2)
theorem lw_callR {μ2 : MI} {idx n : Nat} {v : Value} (As : List Value) (hd : decode (mC μ) pc = .ok (.invokevirtual idx, 3)) (hst : st0 = As.reverse ++ .ref x :: st) (cv : CV (mY μ).cls idx RX12 μ2 n) (hn9 : As.length = n) (hf : fitM μ2 μ) (hw : (st.map fun v => v.category).sum ≤ 8) (hz : (mR μ2).cells = 0 ∧ (mR μ2).slots = 0) (hS : MSp l G x am μ2 As M (some v) M') (hM : InM x am M h1) (hK : KI G (hpm G x am h) a M' h1) (hJ : JJ G a x am M h)
    (kk : ∀ h2 : Hp, JJ G a x am M' h2 → wp l G μ Z (pc + 3) lv (v :: st) h2 rc rs) : wp l G μ Z pc lv st0 h1 rc rs :=
  mp_call (h0 := h1) As hd hst cv hn9 hf hw hz hS hM (fun _ _ _ => rfl) (fun h2 q1 q2 => kk h2 (hJ.step hK q1 q2))
theorem lw_gt {i L : Nat} (hi : i < 2 ^ 31) (hL : L < 2 ^ 31) : nI L - 6 < nI i ↔ L < i + 6 := by
  by_cases c : 6 ≤ L
  · obtain ⟨q, rfl⟩ : ∃ q, L = q + 6 := ⟨L - 6, by omega⟩
    rw [show (6 : Int32) = nI 6 from rfl, nI_sub, nI_ltI (by omega) hi]
    omega
  · have key : (nI L - 6).toInt < 0 := by
      rcases (by omega : L = 0 ∨ L = 1 ∨ L = 2 ∨ L = 3 ∨ L = 4 ∨ L = 5) with rfl | rfl | rfl | rfl | rfl | rfl <;> decide
    rw [Int32.lt_iff_toInt_lt, nI_toInt hi]
    omega
theorem lw_ix {i L : Nat} (j : Nat) {v : Int32} (hv : v = nI j) (hi : i + 6 ≤ L) (hj : j < 6) (hL : L ≤ 3073) : ix (nI i + v) L (i + j) := ⟨by rw [hv, nI_add], by omega, by omega⟩
theorem lw_ix0 {i L : Nat} (hi : i + 6 ≤ L) (hL : L ≤ 3073) : ix (nI i) L i := ⟨rfl, by omega, by omega⟩
end K50B
def scr0 (G : WG) : Int32 := if 0 < gL G then gX G 0 else 0
section K50C
variable (l : Launch) (G : WG)
theorem lw_cell (h : Hp) (hb : gB G < (gH G).size) (hL : gL G ≤ 3073) : SpP l G mL_cell [.ref (gB G), .int 0] h (.int (scr0 G)) := by
  refine Sp.intro (lv := [_, _]) (by decide) rfl (Nat.le_of_ble_eq_true rfl) ?_
  refine wp_widen (rc' := 0) (rs' := 0) (Nat.le_refl _) (Nat.le_refl _) ?_
  refine wp_iload_n (pc := 0) dL_cell_0 rfl rfl ?_
  refine wp_aload_n (pc := 1) dL_cell_1 rfl rfl ?_
  refine wp_slen (pc := 2) dL_cell_2 hb ?_
  refine wp_icmp_ge (pc := 3) (tgt := 12) dL_cell_3 (by decide) (fun c3 => ?_) (fun c3 => ?_)
  · skip
    refine wp_iconst (pc := 12) (v := 0) dL_cell_12 (by decide) ?_
    have hz : gL G = 0 := by
      rw [show (0 : Int32) = nI 0 from rfl, nI_leI (by omega) (by omega)] at c3
      omega
    exact wp_iret (pc := 13) dL_cell_13 rfl ⟨by unfold scr0; rw [hz]; rfl, rfl⟩
  · skip
    refine wp_aload_n (pc := 6) dL_cell_6 rfl rfl ?_
    refine wp_iload_n (pc := 7) dL_cell_7 rfl rfl ?_
    have hpos : 0 < gL G := by
      rcases Nat.eq_zero_or_pos (gL G) with z | z
      · exact absurd (show nI (gL G) ≤ 0 by rw [z]; decide) c3
      · exact z
    refine wp_sld (pc := 8) (i := 0) dL_cell_8 hb ⟨rfl, hpos, by omega⟩ ?_
    refine wp_goto (pc := 9) (tgt := 13) dL_cell_9 (by decide) ?_
    exact wp_iret (pc := 13) dL_cell_13 rfl ⟨by unfold scr0; rw [if_pos hpos], rfl⟩
end K50C
