/-! ===== calls, returns, casts, statics, natives ===== -/
def okM (μ : MI) (n : Nat) : Prop := Cond.code (mY μ) (mC μ) (mL μ) (mT μ) ∈ lw_tbl ∧ Cond.initialized (mY μ).cls ∈ lw_tbl ∧ ((mY μ).cls ≠ "java/lang/invoke/MethodHandle" ∧ (mY μ).cls ≠ "java/lang/invoke/VarHandle") ∧ (parseMethodDescriptor (mY μ).desc).map (fun d => d.parameters.length) = some n
/-- a call by the method's own name, on a receiver of class Cn -/
def CV (own : String) (idx : Nat) (Cn : String) (μ : MI) (n : Nat) : Prop := okM μ n ∧ Cond.methodLink own idx (mY μ) ∈ lw_tbl ∧ Cond.instanceMethod (mY μ) ∈ lw_tbl ∧ Cond.selects Cn (mY μ) (mY μ) ∈ lw_tbl
/-- a call by another name x: inherited, or overridden -/
def CU (own : String) (idx : Nat) (Cn owner : String) (x : MethodName) (μ : MI) (n : Nat) : Prop := okM μ n ∧ Cond.methodLink own idx x ∈ lw_tbl ∧ Cond.sameMethod x.cls owner x.name x.desc ∈ lw_tbl ∧ Cond.instanceMethod (mY μ) ∈ lw_tbl ∧ Cond.selects Cn x (mY μ) ∈ lw_tbl ∧ (owner ≠ "java/lang/invoke/MethodHandle" ∧ owner ≠ "java/lang/invoke/VarHandle") ∧ (parseMethodDescriptor x.desc).map (fun d => d.parameters.length) = some n ∧
  ∃ (b0 : ByteArray) (m0 : Nat) (r0 : Option FieldType), Cond.instanceMethod ⟨owner, x.name, x.desc⟩ ∈ lw_tbl ∧ Cond.code ⟨owner, x.name, x.desc⟩ b0 m0 r0 ∈ lw_tbl
def CS (own : String) (idx : Nat) (μ : MI) (n : Nat) : Prop := okM μ n ∧ Cond.methodLink own idx (mY μ) ∈ lw_tbl ∧ Cond.static (mY μ) ∈ lw_tbl
def CI (own : String) (idx : Nat) (μ : MI) (n : Nat) : Prop := okM μ n ∧ Cond.methodLink own idx (mY μ) ∈ lw_tbl ∧ Cond.instanceMethod (mY μ) ∈ lw_tbl ∧ (mY μ).name = "<init>" ∧ mT μ = none
def CN (own : String) (idx : Nat) (host : String) (μ : MI) (n : Nat) : Prop := okM μ n ∧ Cond.methodLinkNest own idx (mY μ) host ∈ lw_tbl ∧ Cond.instanceMethod (mY μ) ∈ lw_tbl ∧ (mY μ).name = "<init>" ∧ mT μ = none
def fitM (μ2 μ : MI) : Prop := (mR μ2).frames + 1 ≤ (mR μ).frames ∧ 8 + (mL μ2 + 11) + (mR μ2).locals ≤ (mR μ).locals
section WPC
variable {l : Launch} {G : WG} {μ : MI} {Z : WZ} {pc : Nat} {lv : List (Option Value)} {st st0 : List Value} {h : Hp} {rc rs : Nat} {Q : Option Value → Hp → Prop}
theorem spBlind {av : List Value} : FrameBlind (va_Pc av (fun U => wK G U ∧ wR G h U.heap)) := fun a U g mk q => ⟨q.1, wK.warm (s := U) (U := U.calling g mk a) (State.WarmedH.refl U) q.2.1, q.2.2⟩
theorem callB_sp {μ2 : MI} {own : String} {idx n : Nat} {args : Array Value} {s : State} (hts : ∀ w ∈ wt, w.before args s = true) (ok : okM μ2 n) (hl : Cond.methodLink own idx (mY μ2) ∈ lw_tbl) (hf : fitM μ2 μ) :
    CallB (mR μ) s args own idx (mY μ2) (mC μ2) (mL μ2) (mT μ2) (Cond.code (mY μ2) (mC μ2) (mL μ2) (mT μ2) :: wt) (mR μ2) (mR μ2).cells (mR μ2).slots n :=
  callB_of (Ts := wt) n hts (fun w hw => by
    rcases List.mem_cons.mp hw with rfl | hw
    · exact wt_good _ (wt_mem ok.1 rfl)
    · exact wt_good _ hw) rfl rfl rfl (hts _ (wt_mem ok.2.1 rfl)) (hts _ (wt_mem hl rfl)) ⟨ok.2.2.1.1, ok.2.2.1.2, ok.2.2.2⟩ hf
/-- behind a call -/
theorem wp_ran {μ2 : MI} {p : Program} {e : Env} {s : State} {m : MethodId} {args : Array Value} {below : List Frame} {meth : Method} {c : Code} (C : wCtx G μ p s m args meth c) {H : Heap} {locs : List Loc} {cells slots : Nat} {ls : Array Slot} (hlo : ∀ q ∈ locs, (gH G).size ≤ q.base) (hcc : cells + (rc + (mR μ2).cells) ≤ (mR μ).cells) (hss : slots + (rs + (mR μ2).slots) ≤ (mR μ).slots) (hl : lvOK ls lv) (hn : lv.length = mL μ)
    (hr : va_Run p l e (mR μ) s m args below meth c H locs cells slots (mR μ2).cells (mR μ2).slots (F0 m pc ls st0) st (fun _ o t => ∃ (v : Option Value) (h' : Hp), o = .returned v ∧ wR G h' t.heap ∧ Q v h') (fun q => (gH G).size ≤ q))
    (kk : ∀ (v : Option Value) (h' : Hp), Q v h' → wp l G μ Z (pc + 3) lv (v.toList ++ st) h' rc rs) : W p l e (mR μ) s m args below meth c H locs cells slots (Z below args s) (F0 m pc ls st0) := by
  intro T hT X
  obtain ⟨v, st₀, t, T', L, h0, X', hL, e1, e2, ⟨v', h', hv, hR', hQ⟩, stp⟩ := hr T hT X
  cases hv
  obtain ⟨t2, a1, b1⟩ := kk v h' hQ p e s m args below meth c C T'.heap (locs ++ L) (cells + (mR μ2).cells) (slots + (mR μ2).slots) ls (by rw [e1]; exact hR') (fun q hq => by
    rcases List.mem_append.mp hq with z | z
    · exact hlo q z
    · exact hL q z) (by omega) (by omega) hl hn T' rfl X'
  exact ⟨t2, stp t2 a1, b1⟩
theorem wRecv {s : State} {H : Heap} {b ci : Nat} {fs : List Value} {q : vw_C} (hK : wK G s) (hR : wR G h H) (hc : h b = some (oB ci fs)) (hq : vwCl[ci]? = some q) : ∃ cell : Cell, H[b]? = some cell ∧ cell.vm.isStatics = false ∧ s.vm.findClass q.1 = some cell.cls := by
  obtain ⟨r9, h1, cell, g1, g2, g3, -⟩ := (hR.at hc (ne_nilO _)).1
  have hr9 : r9 = q := Option.some.inj (h1.symm.trans hq)
  subst hr9
  exact ⟨cell, g1, by rw [g3]; rfl, by rw [g2]; exact (hK.1.1 ci _ hq).2.1⟩
theorem wp_callV {μ2 : MI} {idx ci n b : Nat} {fs : List Value} {q : vw_C} (As : List Value) (hd : decode (mC μ) pc = .ok (.invokevirtual idx, 3)) (hst : st0 = As.reverse ++ .ref b :: st) (hc : h b = some (oB ci fs)) (hq : vwCl[ci]? = some q) (cv : CV (mY μ).cls idx q.1 μ2 n) (hn9 : As.length = n) (hf : fitM μ2 μ) (hw : (st.map fun v => v.category).sum ≤ 8) (hS : Sp l G μ2 (.ref b :: As) h Q)
    (kk : ∀ (v : Option Value) (h' : Hp), Q v h' → wp l G μ Z (pc + 3) lv (v.toList ++ st) h' rc rs) : wp l G μ Z pc lv st0 h (rc + (mR μ2).cells) (rs + (mR μ2).slots) := by
  intro p e s m args below meth c C H locs cells slots ls hR hlo hcc hss hl hn
  have hts := C.2.2.2.2.2.1
  obtain ⟨ok, w1, w2, w3⟩ := cv
  refine wp_ran (μ2 := μ2) C hlo hcc hss hl hn (va_runV (As := As) (rest := st) (b := b) (n := n) (C := q.1) ⟨C.1, C.2.1, C.2.2.2.1, C.2.2.2.2.1, hts⟩ hS ⟨callB_sp hts ok w1 hf, hts _ (wt_mem w2 rfl), hts _ (wt_mem w3 rfl)⟩ ⟨spBlind, wRecv C.2.2.2.2.2.2.1 hR hc hq, fun U hU hW => ⟨rfl, wK.warm hW C.2.2.2.2.2.2.1, by rw [hU]; exact hR⟩⟩ rfl hn9 (by rw [← hn]; exact hl.1) hst (lv_room hw) hd ⟨by omega, by omega⟩) kk
theorem wp_callU {μ2 : MI} {idx ci n b : Nat} {fs : List Value} {q : vw_C} {owner : String} {x : MethodName} (As : List Value) (hd : decode (mC μ) pc = .ok (.invokevirtual idx, 3)) (hst : st0 = As.reverse ++ .ref b :: st) (hc : h b = some (oB ci fs)) (hq : vwCl[ci]? = some q) (cv : CU (mY μ).cls idx q.1 owner x μ2 n) (hn9 : As.length = n) (hf : fitM μ2 μ) (hw : (st.map fun v => v.category).sum ≤ 8) (hS : Sp l G μ2 (.ref b :: As) h Q)
    (kk : ∀ (v : Option Value) (h' : Hp), Q v h' → wp l G μ Z (pc + 3) lv (v.toList ++ st) h' rc rs) : wp l G μ Z pc lv st0 h (rc + (mR μ2).cells) (rs + (mR μ2).slots) := by
  intro p e s m args below meth c C H locs cells slots ls hR hlo hcc hss hl hn
  have hts := C.2.2.2.2.2.1
  obtain ⟨ok, w1, w2, w3, w4, w5, w6, b0, m0, r0, w7, w8⟩ := cv
  have cb := callB_sp (μ := μ) hts ok (own := (mY μ).cls) (idx := idx)
  refine wp_ran (μ2 := μ2) C hlo hcc hss hl hn (va_runU (As := As) (rest := st) (b := b) (n := n) (C := q.1) (owner := owner) (x := x) (y := mY μ2) (bytes := mC μ2) (maxL := mL μ2) (ret := mT μ2) (ws := Cond.code (mY μ2) (mC μ2) (mL μ2) (mT μ2) :: wt) ⟨C.1, C.2.1, C.2.2.2.1, C.2.2.2.2.1, hts⟩ hS ?_ ⟨spBlind, wRecv C.2.2.2.2.2.2.1 hR hc hq, fun U hU hW => ⟨rfl, wK.warm hW C.2.2.2.2.2.2.1, by rw [hU]; exact hR⟩⟩ rfl hn9 (by rw [← hn]; exact hl.1) hst (lv_room hw) hd ⟨by omega, by omega⟩) kk
  refine ⟨⟨rfl, rfl, hf.1, hf.2, pay_in hts (fun w hw => by
    rcases List.mem_cons.mp hw with rfl | hw
    · exact wt_good _ (wt_mem ok.1 rfl)
    · exact wt_good _ hw), List.mem_cons_self⟩, hts _ (wt_mem ok.1 rfl), hts _ (wt_mem ok.2.1 rfl), w5, fun sig hsig => ?_, hts _ (wt_mem w1 rfl), hts _ (wt_mem w2 rfl), va_Decl.of (hts _ (wt_mem w7 rfl)) (hts _ (wt_mem w8 rfl)), hts _ (wt_mem w4 rfl), hts _ (wt_mem w3 rfl)⟩
  rw [hsig] at w6
  exact (Option.some.inj w6).symm
theorem wp_callS {μ2 : MI} {idx n : Nat} (As : List Value) (hd : decode (mC μ) pc = .ok (.invokestatic idx, 3)) (hst : st0 = As.reverse ++ st) (cv : CS (mY μ).cls idx μ2 n) (hn9 : As.length = n) (hf : fitM μ2 μ) (hw : (st.map fun v => v.category).sum ≤ 8) (hS : Sp l G μ2 As h Q)
    (kk : ∀ (v : Option Value) (h' : Hp), Q v h' → wp l G μ Z (pc + 3) lv (v.toList ++ st) h' rc rs) : wp l G μ Z pc lv st0 h (rc + (mR μ2).cells) (rs + (mR μ2).slots) := by
  intro p e s m args below meth c C H locs cells slots ls hR hlo hcc hss hl hn
  have hts := C.2.2.2.2.2.1
  obtain ⟨ok, w1, w2⟩ := cv
  exact wp_ran (μ2 := μ2) C hlo hcc hss hl hn (va_runS (As := As) (rest := st) (n := n) ⟨C.1, C.2.1, C.2.2.2.1, C.2.2.2.2.1, hts⟩ hS ⟨callB_sp hts ok w1 hf, hts _ (wt_mem w2 rfl)⟩ ⟨spBlind, fun U hU hW => ⟨rfl, wK.warm hW C.2.2.2.2.2.2.1, by rw [hU]; exact hR⟩⟩ rfl hn9 (by rw [← hn]; exact hl.1) hst (lv_room hw) hd ⟨by omega, by omega⟩) kk
theorem wp_callI {μ2 : MI} {idx n b : Nat} (As : List Value) (hd : decode (mC μ) pc = .ok (.invokespecial idx, 3)) (hst : st0 = As.reverse ++ .ref b :: st) (cv : CI (mY μ).cls idx μ2 n) (hn9 : As.length = n) (hf : fitM μ2 μ) (hw : (st.map fun v => v.category).sum ≤ 8) (hS : Sp l G μ2 (.ref b :: As) h Q)
    (kk : ∀ (v : Option Value) (h' : Hp), Q v h' → wp l G μ Z (pc + 3) lv (v.toList ++ st) h' rc rs) : wp l G μ Z pc lv st0 h (rc + (mR μ2).cells) (rs + (mR μ2).slots) := by
  intro p e s m args below meth c C H locs cells slots ls hR hlo hcc hss hl hn
  have hts := C.2.2.2.2.2.1
  obtain ⟨ok, w1, w2, w3, w4⟩ := cv
  have cb := callB_sp (μ := μ) hts ok w1 hf
  rw [w4] at cb
  have hS' := hS
  unfold Sp at hS'
  rw [w4] at hS'
  exact wp_ran (μ2 := μ2) C hlo hcc hss hl hn (va_runI (As := As) (rest := st) (b := b) (n := n) ⟨C.1, C.2.1, C.2.2.2.1, C.2.2.2.2.1, hts⟩ hS' ⟨cb, w3, hts _ (wt_mem w2 rfl)⟩ ⟨spBlind, fun U hU hW => ⟨rfl, wK.warm hW C.2.2.2.2.2.2.1, by rw [hU]; exact hR⟩⟩ rfl hn9 (by rw [← hn]; exact hl.1) hst (lv_room hw) hd ⟨by omega, by omega⟩) kk
theorem wp_callN {μ2 : MI} {idx n b : Nat} {host : String} (As : List Value) (hd : decode (mC μ) pc = .ok (.invokespecial idx, 3)) (hst : st0 = As.reverse ++ .ref b :: st) (cv : CN (mY μ).cls idx host μ2 n) (hn9 : As.length = n) (hf : fitM μ2 μ) (hw : (st.map fun v => v.category).sum ≤ 8) (hS : Sp l G μ2 (.ref b :: As) h Q)
    (kk : ∀ (v : Option Value) (h' : Hp), Q v h' → wp l G μ Z (pc + 3) lv (v.toList ++ st) h' rc rs) : wp l G μ Z pc lv st0 h (rc + (mR μ2).cells) (rs + (mR μ2).slots) := by
  intro p e s m args below meth c C H locs cells slots ls hR hlo hcc hss hl hn
  have hts := C.2.2.2.2.2.1
  obtain ⟨ok, w1, w2, w3, w4⟩ := cv
  have hS' := hS
  unfold Sp at hS'
  rw [w4] at hS'
  refine wp_ran (μ2 := μ2) C hlo hcc hss hl hn (va_runIN (As := As) (rest := st) (b := b) (n := n) (host := host) (bytes := mC μ2) (maxL := mL μ2) ⟨C.1, C.2.1, C.2.2.2.1, C.2.2.2.2.1, hts⟩ hS' ⟨va_cnB (Ts := wt) n hts (fun w hw => ?_) rfl rfl rfl (C.2.2.2.2.2.2.1.2.2.2.2.2.1 _ (List.mem_filter.mpr ⟨w1, rfl⟩)) (hts _ (wt_mem ok.2.1 rfl)) ⟨ok.2.2.1.1, ok.2.2.1.2, ok.2.2.2⟩ hf, w3, hts _ (wt_mem w2 rfl)⟩ ⟨spBlind, fun U hU hW => ⟨rfl, wK.warm hW C.2.2.2.2.2.2.1, by rw [hU]; exact hR⟩⟩ rfl hn9 (by rw [← hn]; exact hl.1) hst (lv_room hw) hd ⟨by omega, by omega⟩) kk
  rcases List.mem_cons.mp hw with rfl | hw
  · have := ok.1
    rw [w4] at this
    exact wt_good _ (wt_mem this rfl)
  · exact wt_good _ hw
theorem wp_objInit {idx b : Nat} (hd : decode (mC μ) pc = .ok (.invokespecial idx, 3)) (hw : Cond.methodLink (mY μ).cls idx objectInit ∈ lw_tbl ∧ Cond.instanceMethod objectInit ∈ lw_tbl ∧ Cond.code objectInit ⟨#[0xb1]⟩ 1 none ∈ lw_tbl) (hst : (st.map fun v => v.category).sum ≤ 8) (hf : 1 ≤ (mR μ).frames ∧ 20 ≤ (mR μ).locals) (kk : wp l G μ Z (pc + 3) lv st h rc rs) : wp l G μ Z pc lv (.ref b :: st) h rc rs := by
  intro p e s m args below meth c C H locs cells slots ls hR hlo hcc hss hl hn
  have hts := C.2.2.2.2.2.1
  refine W.objInit C.1 C.2.1 C.2.2.2.2.1 (hts _ (wt_mem hw.1 rfl)) (hts _ (wt_mem hw.2.1 rfl)) (hts _ (wt_mem hw.2.2 rfl)) rfl (by rw [C.2.2.2.1, ← hn]; exact hl.1) rfl hd hf.1 ?_ (kk p e s m args below meth c C H locs cells slots ls hR hlo hcc hss hl hn)
  have := lv_room (m := m) (pc := pc) (ls := ls) (rest := .ref b :: st) hst
  have h2 := hf.2
  omega
theorem wp_iret {v : Int32} (hd : decode (mC μ) pc = .ok (.ireturn, 1)) (ht : mT μ = some .int) (hQ : Q (some (.int v)) h) : wp l G μ (zM G μ Q) pc lv [.int v] h rc rs := by
  intro p e s m args below meth c C H locs cells slots ls hR hlo hcc hss hl hn
  refine W.widen (k := (mR μ).cells) (n := (mR μ).slots) (by omega) (by omega) ?_
  exact W.iret C.1 C.2.1 (by rw [C.2.2.1]; exact ht) (fun t ht hW => ⟨_, h, rfl, by rw [ht]; exact hR, hQ⟩) hlo hd C.2.2.2.2.2.2.2.1
theorem wp_zret {v : Int32} (hd : decode (mC μ) pc = .ok (.ireturn, 1)) (ht : mT μ = some .boolean) (hv : v = 0 ∨ v = 1) (hQ : Q (some (.int v)) h) : wp l G μ (zM G μ Q) pc lv [.int v] h rc rs := by
  intro p e s m args below meth c C H locs cells slots ls hR hlo hcc hss hl hn
  refine W.widen (k := (mR μ).cells) (n := (mR μ).slots) (by omega) (by omega) ?_
  exact W.zret C.1 C.2.1 (by rw [C.2.2.1]; exact ht) (by rcases hv with rfl | rfl <;> decide) (fun t ht hW => ⟨_, h, rfl, by rw [ht]; exact hR, hQ⟩) hlo hd C.2.2.2.2.2.2.2.1
theorem wp_lret {v : Int64} (hd : decode (mC μ) pc = .ok (.lreturn, 1)) (ht : mT μ = some .long) (hQ : Q (some (.long v)) h) : wp l G μ (zM G μ Q) pc lv [.long v] h rc rs := by
  intro p e s m args below meth c C H locs cells slots ls hR hlo hcc hss hl hn
  refine W.widen (k := (mR μ).cells) (n := (mR μ).slots) (by omega) (by omega) ?_
  exact W.lret C.1 C.2.1 (by rw [C.2.2.1]; exact ht) (fun t ht hW => ⟨_, h, rfl, by rw [ht]; exact hR, hQ⟩) hlo hd C.2.2.2.2.2.2.2.1
theorem wp_vret (hd : decode (mC μ) pc = .ok (.return_, 1)) (ht : mT μ = none) (hQ : Q none h) : wp l G μ (zM G μ Q) pc lv [] h rc rs := by
  intro p e s m args below meth c C H locs cells slots ls hR hlo hcc hss hl hn
  refine W.widen (k := (mR μ).cells) (n := (mR μ).slots) (by omega) (by omega) ?_
  exact W.vret C.1 C.2.1 (by rw [C.2.2.1]; exact ht) (fun t ht hW => ⟨_, h, rfl, by rw [ht]; exact hR, hQ⟩) hlo hd C.2.2.2.2.2.2.2.1
theorem wp_aret {r : Option Nat} {rt : FieldType} (hd : decode (mC μ) pc = .ok (.areturn, 1)) (ht : mT μ = some rt) (hrt : (∃ n, rt = .object n) ∨ ∃ t, rt = .array t) (hQ : Q (some (va_rf r)) h) : wp l G μ (zM G μ Q) pc lv [va_rf r] h rc rs := by
  intro p e s m args below meth c C H locs cells slots ls hR hlo hcc hss hl hn
  refine W.widen (k := (mR μ).cells) (n := (mR μ).slots) (by omega) (by omega) ?_
  exact W.aret C.1 C.2.1 (by rw [C.2.2.1]; exact ht) hrt (va_rf_or r) (fun t ht hW => ⟨_, h, rfl, by rw [ht]; exact hR, hQ⟩) hlo hd C.2.2.2.2.2.2.2.1
/-- objects of class ci pass the cast at that entry -/
def castOK (own : String) (idx ci : Nat) : Prop := ∃ (q : vw_C) (nm : String), vwCl[ci]? = some q ∧ Cond.classLink own idx nm ∈ lw_tbl ∧ (q.1 = nm ∨ Cond.castable q.1 nm ∈ lw_tbl)
def castNo (own : String) (idx ci : Nat) : Prop := ∃ (q : vw_C) (nm : String), vwCl[ci]? = some q ∧ Cond.classLink own idx nm ∈ lw_tbl ∧ (q.1, nm) ∈ w_nocast
theorem wp_cast {idx ci b : Nat} {fs : List Value} (hd : decode (mC μ) pc = .ok (.checkcast idx, 3)) (hc : h b = some (oB ci fs)) (hk : castOK (mY μ).cls idx ci) (kk : wp l G μ Z (pc + 3) lv (.ref b :: st) h rc rs) : wp l G μ Z pc lv (.ref b :: st) h rc rs := by
  intro p e s m args below meth c C H locs cells slots ls hR hlo hcc hss hl hn
  obtain ⟨q, nm, hq, hw, hz⟩ := hk
  have hts := C.2.2.2.2.2.1
  have K := kk p e s m args below meth c C H locs cells slots ls hR hlo hcc hss hl hn
  have hr := wRecv C.2.2.2.2.2.2.1 hR hc hq
  rcases hz with rfl | hz
  · exact va_castS C.1 C.2.1 C.2.2.2.2.1 (hts _ (wt_mem hw rfl)) (C.2.2.2.2.2.2.1.1.1 ci _ hq).2 hr hd K
  · exact va_castY C.1 C.2.1 C.2.2.2.2.1 (hts _ (wt_mem hw rfl)) (C.2.2.2.2.2.2.1.2.2.2.2.2.1 _ (List.mem_filter.mpr ⟨hz, rfl⟩)) hr hd K
theorem wp_instY {idx ci b : Nat} {fs : List Value} (hd : decode (mC μ) pc = .ok (.instanceof idx, 3)) (hc : h b = some (oB ci fs)) (hk : castOK (mY μ).cls idx ci) (kk : wp l G μ Z (pc + 3) lv (.int 1 :: st) h rc rs) : wp l G μ Z pc lv (.ref b :: st) h rc rs := by
  intro p e s m args below meth c C H locs cells slots ls hR hlo hcc hss hl hn
  obtain ⟨q, nm, hq, hw, hz⟩ := hk
  have hts := C.2.2.2.2.2.1
  have K := kk p e s m args below meth c C H locs cells slots ls hR hlo hcc hss hl hn
  have hr := wRecv C.2.2.2.2.2.2.1 hR hc hq
  rcases hz with rfl | hz
  · exact va_instS C.1 C.2.1 C.2.2.2.2.1 (hts _ (wt_mem hw rfl)) (C.2.2.2.2.2.2.1.1.1 ci _ hq).2 hr hd K
  · exact va_instY C.1 C.2.1 C.2.2.2.2.1 (hts _ (wt_mem hw rfl)) (C.2.2.2.2.2.2.1.2.2.2.2.2.1 _ (List.mem_filter.mpr ⟨hz, rfl⟩)) hr hd K
theorem wp_instNo {idx ci b : Nat} {fs : List Value} (hd : decode (mC μ) pc = .ok (.instanceof idx, 3)) (hc : h b = some (oB ci fs)) (hk : castNo (mY μ).cls idx ci) (kk : wp l G μ Z (pc + 3) lv (.int 0 :: st) h rc rs) : wp l G μ Z pc lv (.ref b :: st) h rc rs := by
  intro p e s m args below meth c C H locs cells slots ls hR hlo hcc hss hl hn
  obtain ⟨q, nm, hq, hw, hz⟩ := hk
  exact va_instNo C.1 C.2.1 C.2.2.2.2.1 (C.2.2.2.2.2.1 _ (wt_mem hw rfl)) (C.2.2.2.2.2.2.1.2.2.2.2.1 _ hz) (wRecv C.2.2.2.2.2.2.1 hR hc hq) hd (kk p e s m args below meth c C H locs cells slots ls hR hlo hcc hss hl hn)
theorem wp_instN {idx : Nat} (hd : decode (mC μ) pc = .ok (.instanceof idx, 3)) (kk : wp l G μ Z (pc + 3) lv (.int 0 :: st) h rc rs) : wp l G μ Z pc lv (.null :: st) h rc rs := by
  intro p e s m args below meth c C H locs cells slots ls hR hlo hcc hss hl hn
  exact lv_instN C.1 C.2.1 hd (kk p e s m args below meth c C H locs cells slots ls hR hlo hcc hss hl hn)
/-- ArrayList's empty array -/
theorem wp_gets {idx : Nat} (hd : decode (mC μ) pc = .ok (.getstatic idx, 3)) (hw : Cond.fieldLink (mY μ).cls idx "java/util/ArrayList" "DEFAULTCAPACITY_EMPTY_ELEMENTDATA" "[Ljava/lang/Object;" ∈ lw_tbl) (kk : wp l G μ Z (pc + 3) lv (.ref (gE G) :: st) h rc rs) : wp l G μ Z pc lv st h rc rs := by
  intro p e s m args below meth c C H locs cells slots ls hR hlo hcc hss hl hn
  obtain ⟨cf, kf, fi, f, a, cell, h1, h2, h3, h4, h5, h6, h7, h8⟩ := C.2.2.2.2.2.2.1.2.2.1
  exact W.gets C.1 C.2.1 C.2.2.2.2.1 (C.2.2.2.2.2.1 _ (wt_mem hw rfl)) h1 h2 h3 h4 (by rw [hR.2.1 a (Array.getElem?_eq_some_iff.mp h5).1]; exact h5) (fun e => by rw [e] at h6; cases h6) h7 rfl hd (kk p e s m args below meth c C H locs cells slots ls hR hlo hcc hss hl hn)
/-- Object[]'s mirror -/
theorem wp_ldcM {idx : Nat} (hd : decode (mC μ) pc = .ok (.ldc idx, 2)) (hw : Cond.classLink (mY μ).cls idx "[Ljava/lang/Object;" ∈ lw_tbl) (kk : wp l G μ Z (pc + 2) lv (.ref (gM G) :: st) h rc rs) : wp l G μ Z pc lv st h rc rs := by
  intro p e s m args below meth c C H locs cells slots ls hR hlo hcc hss hl hn
  exact va_ldcM C.1 C.2.1 C.2.2.2.2.1 (C.2.2.2.2.2.1 _ (wt_mem hw rfl)) C.2.2.2.2.2.2.1.2.2.2.1 hd (kk p e s m args below meth c C H locs cells slots ls hR hlo hcc hss hl hn)
def yGetClass : MethodName := ⟨"java/lang/Object", "getClass", "()Ljava/lang/Class;"⟩
theorem wp_getClass {idx b n : Nat} {f : Nat → Option Nat} (hd : decode (mC μ) pc = .ok (.invokevirtual idx, 3)) (hw : Cond.methodLink (mY μ).cls idx yGetClass ∈ lw_tbl ∧ Cond.declares yGetClass ∈ lw_tbl ∧ Cond.selects "[Ljava/lang/Object;" yGetClass yGetClass ∈ lw_tbl ∧ Cond.instanceMethod yGetClass ∈ lw_tbl ∧ Cond.native yGetClass ∈ lw_tbl) (hc : h b = some (aR 3 n f)) (hp0 : 0 < n) (hst : (st.map fun v => v.category).sum ≤ 8) (hf : 1 ≤ (mR μ).frames ∧ 22 ≤ (mR μ).locals) (kk : wp l G μ Z (pc + 3) lv (.ref (gM G) :: st) h rc rs) : wp l G μ Z pc lv (.ref b :: st) h rc rs := by
  intro p e s m args below meth c C H locs cells slots ls hR hlo hcc hss hl hn
  have hts := C.2.2.2.2.2.1
  have hK := C.2.2.2.2.2.2.1
  have hat : H[b]? = some (vp_cell (gY G 3) (n, .inr (.inr (.inr (.inr f))))) := (hR.at hc (ne_nil (Or.inr hp0))).1
  refine va_getC (C := "[Ljava/lang/Object;") C.1 C.2.1 (by rw [C.2.2.2.1, ← hn]; exact hl.1.symm) C.2.2.2.2.1 (hts _ (wt_mem hw.1 rfl)) (va_Nw.use rfl (hK.2.2.2.2.2.1 _ (List.mem_filter.mpr ⟨hw.2.1, rfl⟩))) (hts _ (wt_mem hw.2.2.1 rfl)) (hts _ (wt_mem hw.2.2.2.1 rfl)) (hts _ (wt_mem hw.2.2.2.2 rfl)) hK.2.2.2.1 ⟨_, hat, rfl, ?_⟩ hf.1 (by have := hf.2; omega) hd (kk p e s m args below meth c C H locs cells slots ls hR hlo hcc hss hl hn)
  obtain ⟨_, _, -, -, -, h9⟩ := (hK.1.2 3 (gY G 3, .object "java/lang/Object") rfl).2
  exact h9
end WPC
