section WPY
variable {l : Launch} {G : WG} {μ : MI} {Z : WZ} {pc : Nat} {lv : List (Option Value)} {st st0 : List Value} {h : Hp} {rc rs : Nat}
theorem wp_copy {idx a0 a n0 n1 sp dp n : Nat} {f g : Nat → Option Nat} {xs xd xn : Int32} (hd : decode (mC μ) pc = .ok (.invokestatic idx, 3)) (hw : Cond.methodLink (mY μ).cls idx arraycopyName ∈ lw_tbl ∧ Cond.native arraycopyName ∈ lw_tbl ∧ Cond.static arraycopyName ∈ lw_tbl ∧ Cond.initialized "java/lang/System" ∈ lw_tbl)
    (hc0 : h a0 = some (aR 3 n0 f)) (hc1 : h a = some (aR 3 n1 g)) (es : xs = nI sp) (ed : xd = nI dp) (en : xn = nI n) (b0 : sp + n ≤ n0) (b1 : dp + n ≤ n1) (z0 : n0 < 2 ^ 31) (z1 : n1 < 2 ^ 31) (hp : 0 < n1 ∧ 0 < n0)
    (hel : ∀ i : Nat, i < n → ∀ y : Nat, f (sp + i) = some y → ∃ (ci : Nat) (fs : List Value), h y = some (oB ci fs) ∧ canSt 3 ci)
    (hst : (st.map fun v => v.category).sum ≤ 8) (hf : 1 ≤ (mR μ).frames ∧ 8 + (nativeFrameWords "java/lang/System" "arraycopy" 5 + 11) ≤ (mR μ).locals)
    (kk : wp l G μ Z (pc + 3) lv st (up h a (aR 3 n1 (va_cpy f g sp dp n))) rc rs) : wp l G μ Z pc lv (.int xn :: .int xd :: .ref a :: .int xs :: .ref a0 :: st) h rc rs := by
  intro p e s m args below meth c C H locs cells slots ls hR hlo hcc hss hl hn
  have hts := C.2.2.2.2.2.1
  have hK := C.2.2.2.2.2.2.1.1
  subst es ed en
  have hcs : (nI sp).toNatClampNeg = sp := nI_clamp (by omega)
  have hcd : (nI dp).toNatClampNeg = dp := nI_clamp (by omega)
  have hcn : (nI n).toNatClampNeg = n := nI_clamp (by omega)
  have hb : (gH G).size ≤ a := hR.base hc1 hp.1
  have hT3 := hK.2 3 (gY G 3, .object "java/lang/Object") rfl
  have hc0' : H[a0]? = some (vp_cell (gY G 3) (n0, .inr (.inr (.inr (.inr f))))) := (hR.at hc0 (ne_nil (Or.inr hp.2))).1
  have hc1' : H[a]? = some (vp_cell (gY G 3) (n1, .inr (.inr (.inr (.inr g))))) := (hR.at hc1 (ne_nil (Or.inr hp.1))).1
  intro T hT X
  obtain ⟨-, k0, hk0, cm0, hkk0⟩ := hT3.1 n0 (fun j => va_rf (f j))
  obtain ⟨-, k1, hk1, cm1, hkk1⟩ := hT3.1 n1 (fun j => va_rf (g j))
  obtain ⟨vm', X', step⟩ := X.arraycopy C.1 C.2.2.2.2.1 (hts _ (wt_mem hw.1 rfl)) (hts _ (wt_mem hw.2.1 rfl)) (hts _ (wt_mem hw.2.2.1 rfl)) (hts _ (wt_mem hw.2.2.2 rfl)) (src := a0) (dst := a) (cs := vp_cell (gY G 3) (n0, .inr (.inr (.inr (.inr f))))) (cd := vp_cell (gY G 3) (n1, .inr (.inr (.inr (.inr g))))) (srcPos := nI sp) (destPos := nI dp) (n := nI n) (by rw [hT]; exact hc0') (by rw [hT]; exact hc1')
    (fun _ h => by cases h) (fun _ h => by cases h) (fun h => by cases h) (fun h => by cases h) hk0 hk1 hkk0 hkk1 rfl (nI_pos (by omega)) (nI_pos (by omega)) (nI_pos (by omega))
    (by rw [nI_toInt (by omega), nI_toInt (by omega)]; show ¬ _ > ((arrV (gY G 3) n0 (fun j => va_rf (f j))).slots.size : Int); rw [arrV_size]; omega)
    (by rw [nI_toInt (by omega), nI_toInt (by omega)]; show ¬ _ > ((arrV (gY G 3) n1 (fun j => va_rf (g j))).slots.size : Int); rw [arrV_size]; omega)
    (fun vm₁ hal i hi => by
      rw [hcn] at hi
      have e9 : (vp_cell (gY G 3) (n0, .inr (.inr (.inr (.inr f))))).slots.getD ((nI sp).toNatClampNeg + i) .null = va_rf (f (sp + i)) := by
        show (arrV (gY G 3) n0 (fun j => va_rf (f j))).slots.getD _ _ = _
        rw [hcs, Array.getD_eq_getD_getElem?, arrV_read _ _ (by omega)]
        rfl
      rw [e9]
      cases hy : f (sp + i) with
      | none => exact ⟨rfl, trivial⟩
      | some y =>
        obtain ⟨ci, fs, hcy, q, E, hq, hE, hcast⟩ := hel i hi y hy
        cases hE
        obtain ⟨cellV, g1, g2, g3⟩ := wRecv C.2.2.2.2.2.2.1 hR hcy hq
        obtain ⟨kC, hkC, -⟩ := Vm.findClass_spec g3
        obtain ⟨kA, comp, r1, r2, r3, -⟩ := hT3.2
        have hasg : s.vm.assignable cellV.cls comp = true := by
          rcases hcast with z | z
          · rw [z] at g3; exact vb_asgS comp _ r3 g3
          · exact vb_asgC (C.2.2.2.2.2.2.1.2.2.2.2.2.1 _ (List.mem_filter.mpr ⟨z, rfl⟩)) comp _ r3 g3
        cases hk1.symm.trans r1
        cases hkk1.symm.trans r2
        obtain ⟨kE, hkE, -⟩ := Vm.findClass_spec r3
        obtain ⟨kC', hkC', -⟩ := hal.2.2 _ _ hkC
        obtain ⟨kE', hkE', -⟩ := hal.2.2 _ _ hkE
        refine ⟨rfl, cellV, (show T.heap[y]? = some cellV by rw [hT]; exact g1), (fun q h => by rw [h] at g2; cases g2), ⟨kC', hkC'⟩, ?_, ?_⟩
        · exact ⟨kE', hkE'⟩
        · show vm₁.assignable _ _ = true
          rw [hal.assignable]
          exact hasg)
    (g := F0 m pc ls (.int (nI n) :: .int (nI dp) :: .ref a :: .int (nI sp) :: .ref a0 :: st)) rfl (by rw [C.2.2.2.1, ← hn]; exact hl.1) (rest := st) rfl (by rw [C.2.1]; exact hd) hf.1 (by have := hf.2; show 2 * 0 + _ + _ ≤ _; omega)
  have e1 : copied (vp_cell (gY G 3) (n0, .inr (.inr (.inr (.inr f))))) (vp_cell (gY G 3) (n1, .inr (.inr (.inr (.inr g))))) (nI sp) (nI dp) (nI n) = vp_cell (gY G 3) (n1, .inr (.inr (.inr (.inr (va_cpy f g sp dp n))))) := by
    rw [vp_cell_q, vp_cell_q, vp_cell_q]
    unfold copied
    rw [hcs, hcd, hcn]
    exact va_copied (fun z => va_rf z) (gY G 3) (gY G 3) f g b0
  rw [e1] at X' step
  have hl9 : a < H.size := (Array.getElem?_eq_some_iff.mp hc1').1
  have hheap : ((T.setVm vm').setCell a (vp_cell (gY G 3) (n1, .inr (.inr (.inr (.inr (va_cpy f g sp dp n))))))).heap = H.setIfInBounds a (vp_cell (gY G 3) (n1, .inr (.inr (.inr (.inr (va_cpy f g sp dp n)))))) := by rw [← hT]; rfl
  have oq : ∀ q : Nat, q ≠ a → (H.setIfInBounds a (vp_cell (gY G 3) (n1, .inr (.inr (.inr (.inr (va_cpy f g sp dp n)))))))[q]? = H[q]? := fun q hq => by simp [Array.getElem?_setIfInBounds, Ne.symm hq]
  obtain ⟨t, a1, b1⟩ := kk p e s m args below meth c C _ _ cells slots ls (hR.set (e := aR 3 n1 (va_cpy f g sp dp n)) (by simp) oq hb (show (H.setIfInBounds a _)[a]? = some _ by simp [Array.getElem?_setIfInBounds, hl9])) (fun q hq => by
      rcases List.mem_append.mp hq with h | h
      · exact hlo q h
      · obtain ⟨z, -, hz⟩ := List.mem_map.mp h
        rw [← hz]
        exact hb) hcc hss hl hn _ hheap X'
  exact ⟨t, step t a1, b1⟩
end WPY
