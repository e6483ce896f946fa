/-! ===== arrays ===== -/
abbrev aI (n : Nat) (f : Nat → Int32) : EC := .inl (0, n, .inl f)
abbrev aZ (n : Nat) (f : Nat → Int32) : EC := .inl (2, n, .inl f)
abbrev aJ (n : Nat) (f : Nat → Int64) : EC := .inl (1, n, .inr (.inl f))
abbrev aR (k n : Nat) (f : Nat → Option Nat) : EC := .inl (k, n, .inr (.inr (.inr (.inr f))))
abbrev oB (ci : Nat) (fs : List Value) : EC := .inr (ci, fs)
def ix (x : Int32) (n i : Nat) : Prop := x = nI i ∧ i < n ∧ n < 2 ^ 31
theorem ix.in {x : Int32} {n i : Nat} (h : ix x n i) : vp_in x n := by rw [h.1]; exact vp_in_nI h.2.1 h.2.2
theorem ix.cl {x : Int32} {n i : Nat} (h : ix x n i) : x.toNatClampNeg = i := by rw [h.1]; exact nI_clamp (by have := h.2.1; have := h.2.2; omega)
/-- a row with one place changed -/
def fu {α : Type} (f : Nat → α) (i : Nat) (x : α) : Nat → α := fun j => if j = i then x else f j
theorem fu_s {α : Type} (f : Nat → α) (i : Nat) (x : α) : fu f i x i = x := by simp [fu]
theorem fu_n {α : Type} (f : Nat → α) {i j : Nat} (x : α) (h : j ≠ i) : fu f i x j = f j := by simp [fu, h]
theorem upd_fu (f : Nat → Int32) (k : Nat) (x : Int32) : upd f k x = fu f k x := by funext j; simp [upd, fu]
theorem updL_fu (f : Nat → Int64) (k : Nat) (x : Int64) : vp_updL f k x = fu f k x := by funext j; simp [vp_updL, fu]
theorem va_up_fu {α : Type} (f : Nat → α) (k : Nat) (x : α) : va_up f k x = fu f k x := by funext j; simp [va_up, fu]
section WPA
variable {l : Launch} {G : WG} {μ : MI} {Z : WZ} {pc : Nat} {lv : List (Option Value)} {st : List Value} {h : Hp} {rc rs : Nat}
theorem wR.base {H : Heap} (hR : wR G h H) {a k n : Nat} {r : (Nat → Int32) ⊕ (Nat → Int64) ⊕ (Nat → UInt32) ⊕ (Nat → UInt64) ⊕ (Nat → Option Nat)} (hc : h a = some (.inl (k, n, r))) (hn : 0 < n) : (gH G).size ≤ a := (hR.at hc (ne_nil (Or.inr hn))).2
theorem wp_iald {a n i : Nat} {f : Nat → Int32} {x : Int32} (hd : decode (mC μ) pc = .ok (.iaload, 1)) (hc : h a = some (aI n f)) (hx : ix x n i) (kk : wp l G μ Z (pc + 1) lv (.int (f i) :: st) h rc rs) : wp l G μ Z pc lv (.int x :: .ref a :: st) h rc rs := by
  intro p e s m args below meth c C H locs cells slots ls hR hlo hcc hs hl hn
  have hcl := hx.cl
  have hK := (C.2.2.2.2.2.2.1.1.2 0 (gY G 0, .int) rfl).1
  have hat : H[a]? = some (vp_cell (gY G 0) (n, .inl f)) := (hR.at hc (ne_nil (Or.inl (by decide)))).1
  refine W.iald (v := .int (f i)) C.1 C.2.1 hat (hK n (fun j => .int (f j))) (fun q => by cases q) (by show ¬ (x < 0 ∨ (arrV _ _ _).slots.size ≤ _); rw [arrV_size]; exact hx.in) (by show (arrV _ _ _).slots[_]? = _; rw [hcl, arrV_read _ _ hx.2.1]) rfl rfl hd (kk p e s m args below meth c C H locs cells slots ls hR hlo hcc hs hl hn)
theorem wp_zald {a n i : Nat} {f : Nat → Int32} {x : Int32} (hd : decode (mC μ) pc = .ok (.baload, 1)) (hc : h a = some (aZ n f)) (hx : ix x n i) (kk : wp l G μ Z (pc + 1) lv (.int (f i) :: st) h rc rs) : wp l G μ Z pc lv (.int x :: .ref a :: st) h rc rs := by
  intro p e s m args below meth c C H locs cells slots ls hR hlo hcc hs hl hn
  have hcl := hx.cl
  have hK := (C.2.2.2.2.2.2.1.1.2 2 (gY G 2, .boolean) rfl).1
  have hat : H[a]? = some (vp_cell (gY G 2) (n, .inl f)) := (hR.at hc (ne_nil (Or.inl (by decide)))).1
  refine W.zald (v := .int (f i)) C.1 C.2.1 hat (hK n (fun j => .int (f j))) (fun q => by cases q) (by show ¬ (x < 0 ∨ (arrV _ _ _).slots.size ≤ _); rw [arrV_size]; exact hx.in) (by show (arrV _ _ _).slots[_]? = _; rw [hcl, arrV_read _ _ hx.2.1]) rfl rfl hd (kk p e s m args below meth c C H locs cells slots ls hR hlo hcc hs hl hn)
theorem wp_lald {a n i : Nat} {f : Nat → Int64} {x : Int32} (hd : decode (mC μ) pc = .ok (.laload, 1)) (hc : h a = some (aJ n f)) (hx : ix x n i) (kk : wp l G μ Z (pc + 1) lv (.long (f i) :: st) h rc rs) : wp l G μ Z pc lv (.int x :: .ref a :: st) h rc rs := by
  intro p e s m args below meth c C H locs cells slots ls hR hlo hcc hs hl hn
  have hcl := hx.cl
  have hK := (C.2.2.2.2.2.2.1.1.2 1 (gY G 1, .long) rfl).1
  have hat : H[a]? = some (vp_cell (gY G 1) (n, .inr (.inl f))) := (hR.at hc (ne_nil (Or.inl (by decide)))).1
  refine W.lald (v := .long (f i)) C.1 C.2.1 hat (hK n (fun j => .long (f j))) (fun q => by cases q) (by show ¬ (x < 0 ∨ (arrV _ _ _).slots.size ≤ _); rw [arrV_size]; exact hx.in) (by show (arrV _ _ _).slots[_]? = _; rw [hcl, arrV_read _ _ hx.2.1]) rfl rfl hd (kk p e s m args below meth c C H locs cells slots ls hR hlo hcc hs hl hn)
theorem wp_aald {a n i k : Nat} {f : Nat → Option Nat} {x : Int32} (hk : k = 3 ∨ k = 4 ∨ k = 5 ∨ k = 6) (hd : decode (mC μ) pc = .ok (.aaload, 1)) (hc : h a = some (aR k n f)) (hx : ix x n i) (kk : wp l G μ Z (pc + 1) lv (va_rf (f i) :: st) h rc rs) : wp l G μ Z pc lv (.int x :: .ref a :: st) h rc rs := by
  intro p e s m args below meth c C H locs cells slots ls hR hlo hcc hs hl hn
  have hcl := hx.cl
  have hK : ∃ ty : FieldType, ArrOfT s (gY G k) ty ∧ ty.isReference = true := by
    rcases hk with rfl | rfl | rfl | rfl
    · exact ⟨_, (C.2.2.2.2.2.2.1.1.2 3 (gY G 3, _) rfl).1, rfl⟩
    · exact ⟨_, (C.2.2.2.2.2.2.1.1.2 4 (gY G 4, _) rfl).1, rfl⟩
    · exact ⟨_, (C.2.2.2.2.2.2.1.1.2 5 (gY G 5, _) rfl).1, rfl⟩
    · exact ⟨_, (C.2.2.2.2.2.2.1.1.2 6 (gY G 6, _) rfl).1, rfl⟩
  obtain ⟨ty, hK, hty⟩ := hK
  have hat : H[a]? = some (vp_cell (gY G k) (n, .inr (.inr (.inr (.inr f))))) := (hR.at hc (ne_nil (Or.inr (by have := hx.2.1; omega)))).1
  refine W.aald (v := va_rf (f i)) (ty := ty) C.1 C.2.1 hat (hK n (fun j => va_rf (f j))) hty (fun q => by cases q) (by show ¬ (x < 0 ∨ (arrV _ _ _).slots.size ≤ _); rw [arrV_size]; exact hx.in) (by show (arrV _ _ _).slots[_]? = _; rw [hcl, arrV_read _ _ hx.2.1]) rfl rfl hd (kk p e s m args below meth c C H locs cells slots ls hR hlo hcc hs hl hn)
theorem wp_iast {a n i : Nat} {f : Nat → Int32} {x v : Int32} (hd : decode (mC μ) pc = .ok (.iastore, 1)) (hc : h a = some (aI n f)) (hx : ix x n i) (kk : wp l G μ Z (pc + 1) lv st (up h a (aI n (fu f i v))) rc rs) : wp l G μ Z pc lv (.int v :: .int x :: .ref a :: st) h rc rs := by
  intro p e s m args below meth c C H locs cells slots ls hR hlo hcc hs hl hn
  have hcl := hx.cl
  have hb : (gH G).size ≤ a := hR.base hc (by have := hx.2.1; omega)
  have hK := (C.2.2.2.2.2.2.1.1.2 0 (gY G 0, .int) rfl).1
  have hat : H[a]? = some (vp_cell (gY G 0) (n, .inl f)) := (hR.at hc (ne_nil (Or.inl (by decide)))).1
  refine W.iast C.1 C.2.1 hat (hK n (fun j => .int (f j))) (fun q => by cases q) (by show ¬ (x < 0 ∨ (arrV _ _ _).slots.size ≤ _); rw [arrV_size]; exact hx.in) rfl rfl hd fun H1 e1 z oq => ?_
  refine kk p e s m args below meth c C H1 _ cells slots ls (hR.set z oq hb ?_) ?_ hcc hs hl hn
  · show H1[a]? = some (vp_cell _ _)
    rw [e1, vp_cell_i, vp_cell_i, arrV_store, hcl]
    congr 2
    funext q
    by_cases hq : q = i
    · subst hq; simp [updV, fu]
    · simp [updV, fu, hq]
  · intro q hq9
    rcases List.mem_append.mp hq9 with z9 | z9
    · exact hlo q z9
    · rw [List.mem_singleton.mp z9]; exact hb
theorem wp_last {a n i : Nat} {f : Nat → Int64} {x : Int32} {v : Int64} (hd : decode (mC μ) pc = .ok (.lastore, 1)) (hc : h a = some (aJ n f)) (hx : ix x n i) (kk : wp l G μ Z (pc + 1) lv st (up h a (aJ n (fu f i v))) rc rs) : wp l G μ Z pc lv (.long v :: .int x :: .ref a :: st) h rc rs := by
  intro p e s m args below meth c C H locs cells slots ls hR hlo hcc hs hl hn
  have hcl := hx.cl
  have hb : (gH G).size ≤ a := hR.base hc (by have := hx.2.1; omega)
  have hK := (C.2.2.2.2.2.2.1.1.2 1 (gY G 1, .long) rfl).1
  have hat : H[a]? = some (vp_cell (gY G 1) (n, .inr (.inl f))) := (hR.at hc (ne_nil (Or.inl (by decide)))).1
  refine W.last C.1 C.2.1 hat (hK n (fun j => .long (f j))) (fun q => by cases q) (by show ¬ (x < 0 ∨ (arrV _ _ _).slots.size ≤ _); rw [arrV_size]; exact hx.in) rfl rfl hd fun H1 e1 z oq => ?_
  refine kk p e s m args below meth c C H1 _ cells slots ls (hR.set z oq hb ?_) ?_ hcc hs hl hn
  · show H1[a]? = some (vp_cell _ _)
    rw [e1, vp_cell_l, vp_cell_l, arrV_store, hcl]
    congr 2
    funext q
    by_cases hq : q = i
    · subst hq; simp [updV, fu]
    · simp [updV, fu, hq]
  · intro q hq9
    rcases List.mem_append.mp hq9 with z9 | z9
    · exact hlo q z9
    · rw [List.mem_singleton.mp z9]; exact hb
theorem wp_zast {a n i : Nat} {f : Nat → Int32} {x v : Int32} (hd : decode (mC μ) pc = .ok (.bastore, 1)) (hc : h a = some (aZ n f)) (hx : ix x n i) (hv : v = 0 ∨ v = 1) (kk : wp l G μ Z (pc + 1) lv st (up h a (aZ n (fu f i v))) rc rs) : wp l G μ Z pc lv (.int v :: .int x :: .ref a :: st) h rc rs := by
  intro p e s m args below meth c C H locs cells slots ls hR hlo hcc hs hl hn
  have hcl := hx.cl
  have hb : (gH G).size ≤ a := hR.base hc (by have := hx.2.1; omega)
  have hK := (C.2.2.2.2.2.2.1.1.2 2 (gY G 2, .boolean) rfl).1
  have hat : H[a]? = some (vp_cell (gY G 2) (n, .inl f)) := (hR.at hc (ne_nil (Or.inl (by decide)))).1
  have hnv : narrow .boolean (.int v) = .int v := by rcases hv with rfl | rfl <;> decide
  refine W.zast C.1 C.2.1 hat (hK n (fun j => .int (f j))) (fun q => by cases q) (by show ¬ (x < 0 ∨ (arrV _ _ _).slots.size ≤ _); rw [arrV_size]; exact hx.in) rfl rfl hd fun H1 e1 z oq => ?_
  refine kk p e s m args below meth c C H1 _ cells slots ls (hR.set z oq hb ?_) ?_ hcc hs hl hn
  · show H1[a]? = some (vp_cell _ _)
    rw [e1, vp_cell_i, vp_cell_i, arrV_store, hcl]
    congr 2
    funext q
    by_cases hq : q = i
    · subst hq; simp [updV, fu, hnv]
    · simp [updV, fu, hq]
  · intro q hq9
    rcases List.mem_append.mp hq9 with z9 | z9
    · exact hlo q z9
    · rw [List.mem_singleton.mp z9]; exact hb
/-- which object may be stored into a row of which kind -/
def canSt (k ci : Nat) : Prop := ∃ (q : vw_C) (E : String), vwCl[ci]? = some q ∧ w_ty k = .object E ∧ (q.1 = E ∨ Cond.castable q.1 E ∈ lw_tbl)
theorem w_tys_at (G : WG) (k : Nat) (hk : k = 3 ∨ k = 4 ∨ k = 5) : (w_tys G)[k]? = some (gY G k, w_ty k) := by rcases hk with rfl | rfl | rfl <;> rfl
theorem wp_aast {a n i k ci v : Nat} {f : Nat → Option Nat} {fs : List Value} {x : Int32} (hk : k = 3 ∨ k = 4 ∨ k = 5) (hd : decode (mC μ) pc = .ok (.aastore, 1)) (hc : h a = some (aR k n f)) (hx : ix x n i) (hv : h v = some (oB ci fs)) (hcs : canSt k ci) (kk : wp l G μ Z (pc + 1) lv st (up h a (aR k n (fu f i (some v)))) rc rs) : wp l G μ Z pc lv (.ref v :: .int x :: .ref a :: st) h rc rs := by
  intro p e s m args below meth c C H locs cells slots ls hR hlo hcc hs hl hn
  have hcl := hx.cl
  have hb : (gH G).size ≤ a := hR.base hc (by have := hx.2.1; omega)
  have hK := C.2.2.2.2.2.2.1.1
  obtain ⟨q, E, hq, hE, hcast⟩ := hcs
  have hT := hK.2 k _ (w_tys_at G k hk)
  have hRA : va_RA s (gY G k) (.object E) := by have := hT.2; rw [hE] at this; exact this
  have hat : H[a]? = some (vp_cell (gY G k) (n, .inr (.inr (.inr (.inr f))))) := (hR.at hc (ne_nil (Or.inr (by have := hx.2.1; omega)))).1
  obtain ⟨r9, h1, cell, g1, g2, g3, -⟩ := (hR.at hv (ne_nilO _)).1
  have hr9 : r9 = q := Option.some.inj (h1.symm.trans hq)
  subst hr9
  have hfc : s.vm.findClass r9.1 = some cell.cls := by rw [g2]; exact (hK.1 ci _ hq).2.1
  obtain ⟨kC, hkC, -⟩ := Vm.findClass_spec hfc
  obtain ⟨kA, comp, k1, k2, k3, -⟩ := hRA
  obtain ⟨kE, hkE, -⟩ := Vm.findClass_spec k3
  have hasg : s.vm.assignable cell.cls comp = true := by
    rcases hcast with z | z
    · rw [z] at hfc; exact vb_asgS comp _ k3 hfc
    · exact vb_asgC (C.2.2.2.2.2.2.1.2.2.2.2.2.1 _ (List.mem_filter.mpr ⟨z, rfl⟩)) comp _ k3 hfc
  refine W.aast C.1 C.2.1 hat (fun q h => by cases h) (fun h => by cases h) k1 k2 rfl hkE ⟨fun q => hx.in (Or.inl q), by show _ < (arrV _ _ _).slots.size; rw [arrV_size, hcl]; exact hx.2.1⟩ g1 (fun q h => by rw [g3] at h; cases h) hkC hasg rfl rfl hd fun H1 e1 z oq => ?_
  refine kk p e s m args below meth c C H1 _ cells slots ls (hR.set z oq hb ?_) ?_ hcc hs hl hn
  · show H1[a]? = some (vp_cell _ _)
    rw [e1, vp_cell_q, vp_cell_q, arrV_store, hcl]
    congr 2
    funext q
    by_cases hq : q = i
    · subst hq; simp [updV, fu, va_rf]
    · simp [updV, fu, hq]
  · intro q hq9
    rcases List.mem_append.mp hq9 with z9 | z9
    · exact hlo q z9
    · rw [List.mem_singleton.mp z9]; exact hb
theorem wp_aastN {a n i : Nat} {f : Nat → Option Nat} {x : Int32} (hd : decode (mC μ) pc = .ok (.aastore, 1)) (hc : h a = some (aR 3 n f)) (hx : ix x n i) (kk : wp l G μ Z (pc + 1) lv st (up h a (aR 3 n (fu f i none))) rc rs) : wp l G μ Z pc lv (.null :: .int x :: .ref a :: st) h rc rs := by
  intro p e s m args below meth c C H locs cells slots ls hR hlo hcc hs hl hn
  have hcl := hx.cl
  have hb : (gH G).size ≤ a := hR.base hc (by have := hx.2.1; omega)
  have hK := (C.2.2.2.2.2.2.1.1.2 3 (gY G 3, .object "java/lang/Object") rfl).1
  have hat : H[a]? = some (vp_cell (gY G 3) (n, .inr (.inr (.inr (.inr f))))) := (hR.at hc (ne_nil (Or.inr (by have := hx.2.1; omega)))).1
  refine va_WaastN (C := "java/lang/Object") C.1 C.2.1 hat (hK n (fun j => va_rf (f j))) (fun h => by cases h) (by show ¬ (x < 0 ∨ (arrV _ _ _).slots.size ≤ _); rw [arrV_size]; exact hx.in) rfl rfl hd fun H1 e1 z oq => ?_
  refine kk p e s m args below meth c C H1 _ cells slots ls (hR.set z oq hb ?_) ?_ hcc hs hl hn
  · show H1[a]? = some (vp_cell _ _)
    rw [e1, vp_cell_q, vp_cell_q, arrV_store, hcl]
    congr 2
    funext q
    by_cases hq : q = i
    · subst hq; simp [updV, fu, va_rf]
    · simp [updV, fu, hq]
  · intro q hq9
    rcases List.mem_append.mp hq9 with z9 | z9
    · exact hlo q z9
    · rw [List.mem_singleton.mp z9]; exact hb
theorem wp_alen {a k n : Nat} {r : (Nat → Int32) ⊕ (Nat → Int64) ⊕ (Nat → UInt32) ⊕ (Nat → UInt64) ⊕ (Nat → Option Nat)} (hk : k < 7) (hd : decode (mC μ) pc = .ok (.arraylength, 1)) (hc : h a = some (.inl (k, n, r))) (kk : wp l G μ Z (pc + 1) lv (.int (nI n) :: st) h rc rs) : wp l G μ Z pc lv (.ref a :: st) h rc rs := by
  intro p e s m args below meth c C H locs cells slots ls hR hlo hcc hs hl hn
  have hK := C.2.2.2.2.2.2.1.1
  have ht : (w_tys G)[k]? = some (gY G k, w_ty k) := by
    rcases (by omega : k = 0 ∨ k = 1 ∨ k = 2 ∨ k = 3 ∨ k = 4 ∨ k = 5 ∨ k = 6) with rfl | rfl | rfl | rfl | rfl | rfl | rfl <;> rfl
  rcases hR.2.2 a _ hc with z | ⟨z, cell, y1, y2, y3, y4⟩
  · refine va_alen (D := gD G) (cl := vwCl) (tys := w_tys G) (ws := [(a, .inl (gY G k, n, r))]) (v := nI n) C.1 C.2.1 hK ?_ 0 k rfl ht rfl hd (kk p e s m args below meth c C H locs cells slots ls hR hlo hcc hs hl hn)
    intro j x hx
    have hj : j = 0 := by
      have := (List.getElem?_eq_some_iff.mp hx).1
      simp at this
      exact this
    subst hj
    cases hx
    exact z.1
  · unfold e_nil at z
    simp only [Sum.inl.injEq, Prod.mk.injEq] at z
    obtain ⟨-, kC, hkC, comp, hkind⟩ := (hK.2 3 (gY G 3, .object "java/lang/Object") rfl).1 0 (fun _ => .null)
    exact W.alen (n := nI n) C.1 C.2.1 y1 ⟨y4, kC, by rw [y2]; exact hkC, comp, hkind⟩ (by rw [y3, z.2.1] <;> rfl) rfl rfl hd (kk p e s m args below meth c C H locs cells slots ls hR hlo hcc hs hl hn)
/-- newarray of a kind: the class is the one that the world knows -/
theorem wp_newa {k N : Nat} {n : Int32} {at0 : ArrayType} {e0 : EC} {rc rs : Nat} (hd : decode (mC μ) pc = .ok (.newarray at0, 2)) (hw : Cond.arrayClass (newarray.typeOf at0) ∈ lw_tbl) (hk : (k = 0 ∨ k = 1 ∨ k = 2) ∧ newarray.typeOf at0 = w_ty k) (he : (k = 0 ∧ e0 = aI N (fun _ => 0)) ∨ (k = 1 ∧ e0 = aJ N (fun _ => 0)) ∨ (k = 2 ∧ e0 = aZ N (fun _ => 0))) (hn0 : n = nI N) (hN : N ≤ 65536)
    (kk : ∀ a : Nat, h a = none → (gH G).size ≤ a → wp l G μ Z (pc + 2) lv (.ref a :: st) (up h a e0) rc rs) : wp l G μ Z pc lv (.int n :: st) h (rc + 1) (rs + N) := by
  intro p e s m args below meth c C H locs cells slots ls hR hlo hcc hs hl hn
  have hts := C.2.2.2.2.2.1
  have hK := C.2.2.2.2.2.2.1.1
  have hcl : n.toNatClampNeg = N := by rw [hn0]; exact nI_clamp (by omega)
  refine va_newaK (N := N) C.1 C.2.1 (hts _ (wt_mem hw (by cases at0 <;> rfl))) rfl hd rfl (by rw [hn0]; exact nI_pos (by omega)) hcl ?_ (by omega) (by omega) rfl fun H1 cA e1 z1 o1 hAr hNm => ?_
  · have : componentBytes (newarray.typeOf at0) ≤ 8 := by cases at0 <;> decide
    calc N * componentBytes (newarray.typeOf at0) ≤ 65536 * 8 := Nat.mul_le_mul hN this
      _ ≤ 536870912 := by decide
  have ecA : cA = gY G k := by
    have h9 : va_RA s (gY G k) (w_ty k) := by
      rcases hk.1 with rfl | rfl | rfl
      · exact (hK.2 0 (gY G 0, .int) rfl).2
      · exact (hK.2 1 (gY G 1, .long) rfl).2
      · exact (hK.2 2 (gY G 2, .boolean) rfl).2
    rw [hk.2] at hNm
    have h8 : s.vm.findClass ("[" ++ (w_ty k).toString) = some (gY G k) := by rcases hk.1 with rfl | rfl | rfl <;> exact h9
    exact Option.some.inj (hNm.symm.trans h8)
  subst ecA
  refine kk H.size hR.fresh hR.1 p e s m args below meth c C H1 locs (cells + 1) (slots + N) ls (hR.new z1 o1 ?_) hlo (by omega) (by omega) hl hn
  rw [hk.2] at e1
  rcases he with ⟨rfl, rfl⟩ | ⟨rfl, rfl⟩ | ⟨rfl, rfl⟩ <;> (show H1[H.size]? = some (vp_cell _ _); rw [e1]; rfl)
theorem wp_newq {k idx N : Nat} {E : String} {n : Int32} {rc rs : Nat} (hk : k = 3 ∨ k = 4 ∨ k = 5) (hE : w_ty k = .object E) (hd : decode (mC μ) pc = .ok (.anewarray idx, 3)) (hw : Cond.classLink (mY μ).cls idx E ∈ lw_tbl) (hn0 : n = nI N) (hN : N ≤ 65536)
    (kk : ∀ a : Nat, h a = none → (gH G).size ≤ a → wp l G μ Z (pc + 3) lv (.ref a :: st) (up h a (aR k N (fun _ => none))) rc rs) : wp l G μ Z pc lv (.int n :: st) h (rc + 1) (rs + N) := by
  intro p e s m args below meth c C H locs cells slots ls hR hlo hcc hs hl hn
  have hts := C.2.2.2.2.2.1
  have hK := C.2.2.2.2.2.2.1.1
  have hcl : n.toNatClampNeg = N := by rw [hn0]; exact nI_clamp (by omega)
  have hover : va_AO E s := by
    obtain ⟨-, -, -, -, -, -, h7, h8, h9, -⟩ := C.2.2.2.2.2.2.1
    rcases hk with rfl | rfl | rfl <;> (cases hE; assumption)
  have hRA : va_RA s (gY G k) (.object E) := by have := (hK.2 k _ (w_tys_at G k hk)).2; rw [hE] at this; exact this
  refine W.anew C.1 C.2.1 C.2.2.2.2.1 (hts _ (wt_mem hw rfl)) (va_AO.use hover) rfl hd rfl (by rw [hn0]; exact nI_pos (by omega)) (by rw [hcl]; omega) (by omega) (by rw [hcl]; omega) fun cA kA comp f1 f2 f3 f4 => ?_
  have ecA : cA = gY G k := by
    obtain ⟨_, _, -, -, -, h9⟩ := hRA
    exact Option.some.inj (f1.symm.trans h9)
  subst ecA
  rw [hcl]
  generalize hH1 : H.push ({ cls := gY G k, slots := Array.replicate N .null, vm := .none } : Cell) = H1
  have z1 : H1.size = H.size + 1 := by rw [← hH1, Array.size_push]
  have e1 : H1[H.size]? = some (arrV (gY G k) N (fun _ => .null)) := by rw [← hH1, Array.getElem?_push_size, ← arrV_new]
  have o1 : ∀ q : Nat, q < H.size → H1[q]? = H[q]? := fun q hq => by rw [← hH1, Array.getElem?_push, if_neg (Nat.ne_of_lt hq)]
  refine kk H.size hR.fresh hR.1 p e s m args below meth c C H1 locs (cells + 1) (slots + N) ls (hR.new z1 o1 ?_) hlo (by omega) (by omega) hl hn
  show H1[H.size]? = some (vp_cell _ _)
  rw [vp_cell_q]
  exact e1
/-- the law's script -/
theorem wp_sld {i : Nat} {x : Int32} (hd : decode (mC μ) pc = .ok (.iaload, 1)) (hb : gB G < (gH G).size) (hx : ix x (gL G) i) (kk : wp l G μ Z (pc + 1) lv (.int (gX G i) :: st) h rc rs) : wp l G μ Z pc lv (.int x :: .ref (gB G) :: st) h rc rs := by
  intro p e s m args below meth c C H locs cells slots ls hR hlo hcc hs hl hn
  obtain ⟨scr, h1, h2, h3, h4, h5⟩ := C.2.2.2.2.2.2.1.2.1
  exact W.iald (v := .int (gX G i)) C.1 C.2.1 (by rw [hR.2.1 _ hb]; exact h1) h2 h3 (by rw [h4]; exact hx.in) (by rw [hx.cl]; exact h5 _ hx.2.1) rfl rfl hd (kk p e s m args below meth c C H locs cells slots ls hR hlo hcc hs hl hn)
theorem wp_slen (hd : decode (mC μ) pc = .ok (.arraylength, 1)) (hb : gB G < (gH G).size) (kk : wp l G μ Z (pc + 1) lv (.int (nI (gL G)) :: st) h rc rs) : wp l G μ Z pc lv (.ref (gB G) :: st) h rc rs := by
  intro p e s m args below meth c C H locs cells slots ls hR hlo hcc hs hl hn
  obtain ⟨scr, h1, h2, h3, h4, h5⟩ := C.2.2.2.2.2.2.1.2.1
  exact W.alen (n := nI (gL G)) C.1 C.2.1 (by rw [hR.2.1 _ hb]; exact h1) h2 (by rw [h4] <;> rfl) rfl rfl hd (kk p e s m args below meth c C H locs cells slots ls hR hlo hcc hs hl hn)
end WPA
