/-! ===== fields, arrays, new cells ===== -/
def cl_ty : Nat → Nat → FieldType
  | 0 => tyJx4a65c
  | 1 => tyX0
  | 2 => tyX1
  | 3 => tyX2
  | 4 => tyX3
  | 5 => tyX4
  | 6 => tyX5
  | 7 => tyX6
  | 8 => tyX7
  | 9 => tyX8
  | 10 => tyX9
  | 11 => tyX10
  | 12 => tyX11
  | _ => tyX12
def cl_fact (ci : Nat) (q : vw_C) : Prop := (∀ w ∈ u_ws q.1 q.2.1 q.2.2, w ∈ wt) ∧ (∀ a, a < q.2.2 → ∀ b, b < q.2.2 → a ≠ b → (q.2.1 a).2.1 ≠ (q.2.1 b).2.1) ∧ ∀ k, k < q.2.2 → parseFieldDescriptor (q.2.1 k).2.2.1 = some (cl_ty ci k)
theorem u_wt {C : String} {T : u_T} {N : Nat} (h : ∀ w ∈ u_ws C T N, w ∈ lw_tbl) : ∀ w ∈ u_ws C T N, w ∈ wt := fun w hw => wt_mem (h w hw) (by
  obtain ⟨k, -, rfl⟩ := List.mem_map.mp hw
  unfold u_lay
  split <;> rfl)
theorem in_0 : ∀ w ∈ u_ws RJx4a65c TJx4a65c 3, w ∈ lw_tbl := by decide +kernel
theorem in_1 : ∀ w ∈ u_ws RX0 TX0 6, w ∈ lw_tbl := by decide +kernel
theorem in_2 : ∀ w ∈ u_ws RX1 TX1 5, w ∈ lw_tbl := by decide +kernel
theorem in_3 : ∀ w ∈ u_ws RX2 TX2 10, w ∈ lw_tbl := by decide +kernel
theorem in_4 : ∀ w ∈ u_ws RX3 TX3 6, w ∈ lw_tbl := by decide +kernel
theorem in_5 : ∀ w ∈ u_ws RX4 TX4 5, w ∈ lw_tbl := by decide +kernel
theorem in_6 : ∀ w ∈ u_ws RX5 TX5 3, w ∈ lw_tbl := by decide +kernel
theorem in_7 : ∀ w ∈ u_ws RX6 TX6 6, w ∈ lw_tbl := by decide +kernel
theorem in_8 : ∀ w ∈ u_ws RX7 TX7 5, w ∈ lw_tbl := by decide +kernel
theorem in_9 : ∀ w ∈ u_ws RX8 TX8 4, w ∈ lw_tbl := by decide +kernel
theorem in_10 : ∀ w ∈ u_ws RX9 TX9 9, w ∈ lw_tbl := by decide +kernel
theorem in_11 : ∀ w ∈ u_ws RX10 TX10 5, w ∈ lw_tbl := by decide +kernel
theorem in_12 : ∀ w ∈ u_ws RX11 TX11 18, w ∈ lw_tbl := by decide +kernel
theorem in_13 : ∀ w ∈ u_ws RX12 TX12 59, w ∈ lw_tbl := by decide +kernel
theorem cl_ok : ∀ (ci : Nat) (q : vw_C), vwCl[ci]? = some q → cl_fact ci q
  | 0, _, h => by cases h; exact ⟨u_wt in_0, nmJx4a65c, tyJx4a65c_ok⟩
  | 1, _, h => by cases h; exact ⟨u_wt in_1, nmX0, tyX0_ok⟩
  | 2, _, h => by cases h; exact ⟨u_wt in_2, nmX1, tyX1_ok⟩
  | 3, _, h => by cases h; exact ⟨u_wt in_3, nmX2, tyX2_ok⟩
  | 4, _, h => by cases h; exact ⟨u_wt in_4, nmX3, tyX3_ok⟩
  | 5, _, h => by cases h; exact ⟨u_wt in_5, nmX4, tyX4_ok⟩
  | 6, _, h => by cases h; exact ⟨u_wt in_6, nmX5, tyX5_ok⟩
  | 7, _, h => by cases h; exact ⟨u_wt in_7, nmX6, tyX6_ok⟩
  | 8, _, h => by cases h; exact ⟨u_wt in_8, nmX7, tyX7_ok⟩
  | 9, _, h => by cases h; exact ⟨u_wt in_9, nmX8, tyX8_ok⟩
  | 10, _, h => by cases h; exact ⟨u_wt in_10, nmX9, tyX9_ok⟩
  | 11, _, h => by cases h; exact ⟨u_wt in_11, nmX10, tyX10_ok⟩
  | 12, _, h => by cases h; exact ⟨u_wt in_12, nmX11, tyX11_ok⟩
  | 13, _, h => by cases h; exact ⟨u_wt in_13, nmX12, tyX12_ok⟩
  | k + 14, _, h => by simp [vwCl] at h
/-- the field that an entry of own's pool names is field k of class ci -/
def FL (own : String) (idx k ci : Nat) : Prop := ∃ (q : vw_C) (ref : String), vwCl[ci]? = some q ∧ k < q.2.2 ∧ Cond.fieldLink own idx ref (q.2.1 k).2.1 (q.2.1 k).2.2.1 ∈ lw_tbl ∧ (ref = (q.2.1 k).1 ∨ Cond.sameField ref (q.2.1 k).1 (q.2.1 k).2.1 (q.2.1 k).2.2.1 ∈ lw_tbl)
def isFin (k ci : Nat) : Bool := match vwCl[ci]? with | some q => (q.2.1 k).2.2.2 | none => false
def declOf (k ci : Nat) : String := match vwCl[ci]? with | some q => (q.2.1 k).1 | none => ""
section WPH
variable {l : Launch} {G : WG} {μ : MI} {Z : WZ} {pc : Nat} {lv : List (Option Value)} {st : List Value} {h : Hp} {rc rs : Nat}
theorem wp_get {a ci k idx : Nat} {fs : List Value} {v : Value} (hd : decode (mC μ) pc = .ok (.getfield idx, 3)) (fl : FL (mY μ).cls idx k ci) (hc : h a = some (.inr (ci, fs))) (hv : fs[k]? = some v) (kk : wp l G μ Z (pc + 3) lv (v :: st) h rc rs) : wp l G μ Z pc lv (.ref a :: st) h rc rs := by
  intro p e s m args below meth c C H locs cells slots ls hR hlo hcc hs hl hn
  obtain ⟨⟨Cn, T, N⟩, ref, hq, hk, hw, hsm⟩ := fl
  have hts := C.2.2.2.2.2.1
  have hat := (hR.at hc (ne_nilO _)).1
  refine va_get (D := gD G) (cl := vwCl) (tys := w_tys G) (ws := [(a, .inr (ci, fs))]) (ci := ci) (v := v) (C := Cn) (T := T) (N := N) C.1 C.2.1 hts (cl_ok ci _ hq).1 C.2.2.2.2.1 C.2.2.2.2.2.2.1.1 ?_ 0 rfl hq k hk (hts _ (wt_mem hw rfl)) ?_ hv hd (kk p e s m args below meth c C H locs cells slots ls hR hlo hcc hs hl hn)
  · intro j x hx
    have hj : j = 0 := by
      have := (List.getElem?_eq_some_iff.mp hx).1
      simp at this
      exact this
    subst hj
    cases hx
    exact hat
  · intro x hx
    rcases hsm with rfl | hsm
    · exact hx
    · exact u_same (hts _ (wt_mem hsm rfl)) x hx
theorem wp_put {a ci k idx : Nat} {fs : List Value} {v : Value} (hd : decode (mC μ) pc = .ok (.putfield idx, 3)) (fl : FL (mY μ).cls idx k ci) (hc : h a = some (.inr (ci, fs))) (hf : isFin k ci = false ∨ (isFin k ci = true ∧ declOf k ci = (mY μ).cls ∧ (mY μ).name = "<init>")) (hl9 : k < fs.length) (hn9 : narrow (cl_ty ci k) v = v) (hfit : fits (cl_ty ci k) v = true) (kk : wp l G μ Z (pc + 3) lv st (up h a (.inr (ci, fs.set k v))) rc rs) : wp l G μ Z pc lv (v :: .ref a :: st) h rc rs := by
  intro p e s m args below meth c C H locs cells slots ls hR hlo hcc hs hl hn
  obtain ⟨⟨Cn, T, N⟩, ref, hq, hk, hw, hsm⟩ := fl
  have hts := C.2.2.2.2.2.1
  have hown := C.2.2.2.2.1
  have hK := C.2.2.2.2.2.2.1.1
  obtain ⟨hin, hnm, hty⟩ := cl_ok ci _ hq
  obtain ⟨hat, hbase⟩ := hR.at hc (ne_nilO _)
  have hap := va_apart (own := (mY μ).cls) hts hin (cl_ty ci) hty hnm hK hq
  obtain ⟨r, h1, cell, q1, q2, q3, q4⟩ := hat
  have hr : r = (Cn, T, N) := Option.some.inj (h1.symm.trans hq)
  subst hr
  obtain ⟨hS, hfc, kC, hkC, hkind⟩ := hK.1 ci _ hq
  obtain ⟨cf, kf, fi, f, hi, hsl⟩ := hS k hk
  have hlay := hts _ (hin _ (u_in_lay hk))
  unfold u_lay at hlay
  have hst := (u_facts hfc hkC (u_lays hts hin hk) hi).1
  have hsame : s.fieldFound? ref (T k).2.1 (T k).2.2.1 = some (cf, kf, fi, f) := by
    rcases hsm with rfl | hsm
    · exact hi
    · exact u_same (hts _ (wt_mem hsm rfl)) _ hi
  have hfin : isFin k ci = (T k).2.2.2 := by unfold isFin; rw [hq]
  have hdec : declOf k ci = (T k).1 := by unfold declOf; rw [hq]
  have fin : ∀ H' : Heap, H'[a]? = some (cell.setSlot f.slot v) → H'.size = H.size → (∀ q : Nat, q ≠ a → H'[q]? = H[q]?) → W p l e (mR μ) s m args below meth c H' (locs ++ [⟨a, f.slot⟩]) cells slots (Z below args s) (F0 m (pc + 3) ls st) := by
    intro H' e1 e2 e3
    rw [hsl] at e1
    refine kk p e s m args below meth c C H' _ cells slots ls (hR.set e2 e3 hbase ?_) ?_ hcc hs hl hn
    · exact ⟨_, hq, t_OB.to (V := updV (vp_V fs) k v) ⟨_, e1, q2, q3, t_set q4 hap hk v⟩ (fun j _ => vp_updV_set hl9 v j)⟩
    · intro q hq9
      rcases List.mem_append.mp hq9 with z | z
      · exact hlo q z
      · rw [List.mem_singleton.mp z]; exact hbase
  rcases hf with hf | ⟨hf, hdc, hini⟩
  · rw [if_neg (by rw [← hfin, hf]; decide)] at hlay
    have h6 := u_store hfc hkC hkind hlay hi (hty k hk) hn9 hfit
    exact W.putK C.1 C.2.1 (f := f) ⟨hown, hts _ (wt_mem hw rfl), ⟨_, _, _, hsame⟩, hst⟩ (by rw [q2]; exact h6) q1 q3 (by rw [hsl]; exact k2_hasslot (q4 k hk)) rfl rfl hd fin
  · rw [if_pos (by rw [← hfin, hf])] at hlay
    have hcf : m.cls = cf := by
      obtain ⟨_, _, c', _, _, _, -, -, hf', -, -, -, hown2, -⟩ := Cond.laysFinal_spec hlay
      have e1 : c' = cf := by have := hi.symm.trans hf'; simp at this; exact this.1.symm
      rw [← hdec, hdc] at hown2
      rw [← e1]; exact Option.some.inj (hown.symm.trans hown2)
    have h6 := u_fits hfc hkC hkind (Or.inr hlay) hi (hty k hk) hn9 hfit
    exact W.putFinK C.1 C.2.1 hown (hts _ (wt_mem hw rfl)) hsame hst hcf (by rw [C.2.2.2.2.2.2.2.2]; exact hini) (by rw [q2]; exact h6) q1 q3 (by rw [hsl]; exact k2_hasslot (q4 k hk)) rfl rfl hd fin
theorem wp_widen {rc' rs' : Nat} (h1 : rc' ≤ rc) (h2 : rs' ≤ rs) (k : wp l G μ Z pc lv st h rc' rs') : wp l G μ Z pc lv st h rc rs := by
  intro p e s m args below meth c C H locs cells slots ls hR hlo hc hs hl hn
  exact k p e s m args below meth c C H locs cells slots ls hR hlo (by omega) (by omega) hl hn
theorem wp_new {idx ci N : Nat} {Cn : String} {T : u_T} {fs : List Value} {rc rs : Nat} (hd : decode (mC μ) pc = .ok (.new idx, 3)) (hw : Cond.classLink (mY μ).cls idx Cn ∈ lw_tbl ∧ Cond.instantiable Cn N ∈ lw_tbl ∧ Cond.initialized Cn ∈ lw_tbl) (hq : vwCl[ci]? = some (Cn, T, N)) (hfs : ∀ j, j < N → defaultValue (cl_ty ci j) = vp_V fs j)
    (kk : ∀ a : Nat, h a = none → (gH G).size ≤ a → wp l G μ Z (pc + 3) lv (.ref a :: st) (up h a (.inr (ci, fs))) rc rs) : wp l G μ Z pc lv st h (rc + 1) (rs + N) := by
  intro p e s m args below meth c C H locs cells slots ls hR hlo hcc hs hl hn
  have hts := C.2.2.2.2.2.1
  have hown := C.2.2.2.2.1
  have hK := C.2.2.2.2.2.2.1.1
  have hKn := hK.1 ci _ hq
  obtain ⟨hin, hnm, hty⟩ := cl_ok ci _ hq
  refine W.newcK C.1 C.2.1 hown (hts _ (wt_mem hw.1 rfl)) (hts _ (wt_mem hw.2.1 rfl)) (hts _ (wt_mem hw.2.2 rfl)) rfl hd (by omega) (by omega) hKn.2.1 rfl fun H1 kC hkC e1 z1 o1 => ?_
  refine kk H.size hR.fresh hR.1 p e s m args below meth c C H1 locs (cells + 1) (slots + N) ls (hR.new z1 o1 ?_) hlo (by omega) (by omega) hl hn
  exact ⟨_, hq, (u_born (cl_ty ci) hts hin hKn hkC e1 hty).to hfs⟩
end WPH
