theorem wp_iconst {l : Launch} {G : WG} {μ : MI} {Z : WZ} {pc : Nat} {lv : List (Option Value)} {st : List Value} {h : Hp} {rc rs : Nat} {n : Int} {v : Int32} (hd : decode (mC μ) pc = .ok (.iconst n, 1)) (hv : Int32.ofInt n = v) (k : wp l G μ Z (pc + 1) lv (.int v :: st) h rc rs) : wp l G μ Z pc lv (st) h rc rs := by
  intro p e s m args below meth c C H locs cells slots ls hR hlo hc hs hl hn
  exact lv_iconst C.1 C.2.1 hd hv (k p e s m args below meth c C H locs cells slots ls hR hlo hc hs hl hn)
theorem wp_bipush {l : Launch} {G : WG} {μ : MI} {Z : WZ} {pc : Nat} {lv : List (Option Value)} {st : List Value} {h : Hp} {rc rs : Nat} {n : Int} {v : Int32} (hd : decode (mC μ) pc = .ok (.bipush n, 2)) (hv : (Int8.ofInt n).toInt32 = v) (k : wp l G μ Z (pc + 2) lv (.int v :: st) h rc rs) : wp l G μ Z pc lv (st) h rc rs := by
  intro p e s m args below meth c C H locs cells slots ls hR hlo hc hs hl hn
  exact lv_bipush C.1 C.2.1 hd hv (k p e s m args below meth c C H locs cells slots ls hR hlo hc hs hl hn)
theorem wp_sipush {l : Launch} {G : WG} {μ : MI} {Z : WZ} {pc : Nat} {lv : List (Option Value)} {st : List Value} {h : Hp} {rc rs : Nat} {n : Int} {v : Int32} (hd : decode (mC μ) pc = .ok (.sipush n, 3)) (hv : (Int16.ofInt n).toInt32 = v) (k : wp l G μ Z (pc + 3) lv (.int v :: st) h rc rs) : wp l G μ Z pc lv (st) h rc rs := by
  intro p e s m args below meth c C H locs cells slots ls hR hlo hc hs hl hn
  exact lv_sipush C.1 C.2.1 hd hv (k p e s m args below meth c C H locs cells slots ls hR hlo hc hs hl hn)
theorem wp_lconst {l : Launch} {G : WG} {μ : MI} {Z : WZ} {pc : Nat} {lv : List (Option Value)} {st : List Value} {h : Hp} {rc rs : Nat} {n : Fin 2} {v : Int64} (hd : decode (mC μ) pc = .ok (.lconst n, 1)) (hv : Int64.ofInt n = v) (k : wp l G μ Z (pc + 1) lv (.long v :: st) h rc rs) : wp l G μ Z pc lv (st) h rc rs := by
  intro p e s m args below meth c C H locs cells slots ls hR hlo hc hs hl hn
  exact lv_lconst C.1 C.2.1 hd (by rw [← hv]; rfl) (k p e s m args below meth c C H locs cells slots ls hR hlo hc hs hl hn)
theorem wp_null {l : Launch} {G : WG} {μ : MI} {Z : WZ} {pc : Nat} {lv : List (Option Value)} {st : List Value} {h : Hp} {rc rs : Nat}  (hd : decode (mC μ) pc = .ok (.aconst_null, 1)) (k : wp l G μ Z (pc + 1) lv (.null :: st) h rc rs) : wp l G μ Z pc lv (st) h rc rs := by
  intro p e s m args below meth c C H locs cells slots ls hR hlo hc hs hl hn
  exact lv_null C.1 C.2.1 hd (k p e s m args below meth c C H locs cells slots ls hR hlo hc hs hl hn)
theorem wp_iload_n {l : Launch} {G : WG} {μ : MI} {Z : WZ} {pc : Nat} {lv : List (Option Value)} {st : List Value} {h : Hp} {rc rs : Nat} {k : Fin 4} {i : Nat} {x : Int32} (hd : decode (mC μ) pc = .ok (.iload_n k, 1)) (hi : (k : Nat) = i) (hx : lv[i]? = some (some (.int x))) (k : wp l G μ Z (pc + 1) lv (.int x :: st) h rc rs) : wp l G μ Z pc lv (st) h rc rs := by
  intro p e s m args below meth c C H locs cells slots ls hR hlo hc hs hl hn
  exact lv_iload_n C.1 C.2.1 hd hi (hl.2.2 i _ hx) (k p e s m args below meth c C H locs cells slots ls hR hlo hc hs hl hn)
theorem wp_iload {l : Launch} {G : WG} {μ : MI} {Z : WZ} {pc : Nat} {lv : List (Option Value)} {st : List Value} {h : Hp} {rc rs : Nat} {i : Nat} {x : Int32} (hd : decode (mC μ) pc = .ok (.iload i, 2)) (hx : lv[i]? = some (some (.int x))) (k : wp l G μ Z (pc + 2) lv (.int x :: st) h rc rs) : wp l G μ Z pc lv (st) h rc rs := by
  intro p e s m args below meth c C H locs cells slots ls hR hlo hc hs hl hn
  exact lv_iload C.1 C.2.1 hd (hl.2.2 i _ hx) (k p e s m args below meth c C H locs cells slots ls hR hlo hc hs hl hn)
theorem wp_lload_n {l : Launch} {G : WG} {μ : MI} {Z : WZ} {pc : Nat} {lv : List (Option Value)} {st : List Value} {h : Hp} {rc rs : Nat} {k : Fin 4} {i : Nat} {x : Int64} (hd : decode (mC μ) pc = .ok (.lload_n k, 1)) (hi : (k : Nat) = i) (hx : lv[i]? = some (some (.long x))) (k : wp l G μ Z (pc + 1) lv (.long x :: st) h rc rs) : wp l G μ Z pc lv (st) h rc rs := by
  intro p e s m args below meth c C H locs cells slots ls hR hlo hc hs hl hn
  exact lv_lload_n C.1 C.2.1 hd hi (hl.2.2 i _ hx) (k p e s m args below meth c C H locs cells slots ls hR hlo hc hs hl hn)
theorem wp_lload {l : Launch} {G : WG} {μ : MI} {Z : WZ} {pc : Nat} {lv : List (Option Value)} {st : List Value} {h : Hp} {rc rs : Nat} {i : Nat} {x : Int64} (hd : decode (mC μ) pc = .ok (.lload i, 2)) (hx : lv[i]? = some (some (.long x))) (k : wp l G μ Z (pc + 2) lv (.long x :: st) h rc rs) : wp l G μ Z pc lv (st) h rc rs := by
  intro p e s m args below meth c C H locs cells slots ls hR hlo hc hs hl hn
  exact lv_lload C.1 C.2.1 hd (hl.2.2 i _ hx) (k p e s m args below meth c C H locs cells slots ls hR hlo hc hs hl hn)
theorem wp_aload_n {l : Launch} {G : WG} {μ : MI} {Z : WZ} {pc : Nat} {lv : List (Option Value)} {st : List Value} {h : Hp} {rc rs : Nat} {k : Fin 4} {i : Nat} {x : Nat} (hd : decode (mC μ) pc = .ok (.aload_n k, 1)) (hi : (k : Nat) = i) (hx : lv[i]? = some (some (.ref x))) (k : wp l G μ Z (pc + 1) lv (.ref x :: st) h rc rs) : wp l G μ Z pc lv (st) h rc rs := by
  intro p e s m args below meth c C H locs cells slots ls hR hlo hc hs hl hn
  exact lv_aload_n C.1 C.2.1 hd hi (hl.2.2 i _ hx) (k p e s m args below meth c C H locs cells slots ls hR hlo hc hs hl hn)
theorem wp_aload {l : Launch} {G : WG} {μ : MI} {Z : WZ} {pc : Nat} {lv : List (Option Value)} {st : List Value} {h : Hp} {rc rs : Nat} {i : Nat} {x : Nat} (hd : decode (mC μ) pc = .ok (.aload i, 2)) (hx : lv[i]? = some (some (.ref x))) (k : wp l G μ Z (pc + 2) lv (.ref x :: st) h rc rs) : wp l G μ Z pc lv (st) h rc rs := by
  intro p e s m args below meth c C H locs cells slots ls hR hlo hc hs hl hn
  exact lv_aload C.1 C.2.1 hd (hl.2.2 i _ hx) (k p e s m args below meth c C H locs cells slots ls hR hlo hc hs hl hn)
theorem wp_aload_nN {l : Launch} {G : WG} {μ : MI} {Z : WZ} {pc : Nat} {lv : List (Option Value)} {st : List Value} {h : Hp} {rc rs : Nat} {k : Fin 4} {i : Nat} (hd : decode (mC μ) pc = .ok (.aload_n k, 1)) (hi : (k : Nat) = i) (hx : lv[i]? = some (some .null)) (k : wp l G μ Z (pc + 1) lv (.null :: st) h rc rs) : wp l G μ Z pc lv (st) h rc rs := by
  intro p e s m args below meth c C H locs cells slots ls hR hlo hc hs hl hn
  exact lv_aload_nN C.1 C.2.1 hd hi (hl.2.2 i _ hx) (k p e s m args below meth c C H locs cells slots ls hR hlo hc hs hl hn)
theorem wp_aloadN {l : Launch} {G : WG} {μ : MI} {Z : WZ} {pc : Nat} {lv : List (Option Value)} {st : List Value} {h : Hp} {rc rs : Nat} {i : Nat} (hd : decode (mC μ) pc = .ok (.aload i, 2)) (hx : lv[i]? = some (some .null)) (k : wp l G μ Z (pc + 2) lv (.null :: st) h rc rs) : wp l G μ Z pc lv (st) h rc rs := by
  intro p e s m args below meth c C H locs cells slots ls hR hlo hc hs hl hn
  exact lv_aloadN C.1 C.2.1 hd (hl.2.2 i _ hx) (k p e s m args below meth c C H locs cells slots ls hR hlo hc hs hl hn)
theorem wp_aload_nQ {l : Launch} {G : WG} {μ : MI} {Z : WZ} {pc : Nat} {lv : List (Option Value)} {st : List Value} {h : Hp} {rc rs : Nat} {k : Fin 4} {i : Nat} {r : Option Nat} (hd : decode (mC μ) pc = .ok (.aload_n k, 1)) (hi : (k : Nat) = i) (hx : lv[i]? = some (some (va_rf r))) (k : wp l G μ Z (pc + 1) lv (va_rf r :: st) h rc rs) : wp l G μ Z pc lv st h rc rs := by
  cases r with
  | none => exact wp_aload_nN hd hi hx k
  | some a => exact wp_aload_n hd hi hx k
theorem wp_aloadQ {l : Launch} {G : WG} {μ : MI} {Z : WZ} {pc : Nat} {lv : List (Option Value)} {st : List Value} {h : Hp} {rc rs : Nat} {i : Nat} {r : Option Nat} (hd : decode (mC μ) pc = .ok (.aload i, 2)) (hx : lv[i]? = some (some (va_rf r))) (k : wp l G μ Z (pc + 2) lv (va_rf r :: st) h rc rs) : wp l G μ Z pc lv st h rc rs := by
  cases r with
  | none => exact wp_aloadN hd hx k
  | some a => exact wp_aload hd hx k
theorem wp_istore_n {l : Launch} {G : WG} {μ : MI} {Z : WZ} {pc : Nat} {lv : List (Option Value)} {st : List Value} {h : Hp} {rc rs : Nat} {k : Fin 4} {i : Nat} {x : Int32} {lv' : List (Option Value)} (hd : decode (mC μ) pc = .ok (.istore_n k, 1)) (hi : (k : Nat) = i) (hz : i < lv.length) (h9 : lv9 lv i = true) (he : lv.set i (some (.int x)) = lv') (k : wp l G μ Z (pc + 1) lv' st h rc rs) : wp l G μ Z pc lv (.int x :: st) h rc rs := by
  intro p e s m args below meth c C H locs cells slots ls hR hlo hc hs hl hn
  obtain ⟨ls', e', h'⟩ := hl.set1 (v := .int x) hz rfl
  rw [← lset_eq lv i _ h9] at he
  subst hi
  subst he
  intro T hT X
  have hx := C.1
  have hb := C.2.1
  obtain ⟨t, a, b⟩ := k p e s m args below meth c C H locs cells slots ls' hR hlo hc hs h' (by rw [lset_length]; exact hn) T hT X
  refine ⟨t, ?_, b⟩
  jvm_step X.here [X.here.top, ↓top_set X.here.top, hx, hb, hd, e']
  exact a
theorem wp_istore {l : Launch} {G : WG} {μ : MI} {Z : WZ} {pc : Nat} {lv : List (Option Value)} {st : List Value} {h : Hp} {rc rs : Nat} {i : Nat} {x : Int32} {lv' : List (Option Value)} (hd : decode (mC μ) pc = .ok (.istore i, 2)) (hz : i < lv.length) (h9 : lv9 lv i = true) (he : lv.set i (some (.int x)) = lv') (k : wp l G μ Z (pc + 2) lv' st h rc rs) : wp l G μ Z pc lv (.int x :: st) h rc rs := by
  intro p e s m args below meth c C H locs cells slots ls hR hlo hc hs hl hn
  obtain ⟨ls', e', h'⟩ := hl.set1 (v := .int x) hz rfl
  rw [← lset_eq lv i _ h9] at he
  subst he
  intro T hT X
  have hx := C.1
  have hb := C.2.1
  obtain ⟨t, a, b⟩ := k p e s m args below meth c C H locs cells slots ls' hR hlo hc hs h' (by rw [lset_length]; exact hn) T hT X
  refine ⟨t, ?_, b⟩
  jvm_step X.here [X.here.top, ↓top_set X.here.top, hx, hb, hd, e']
  exact a
theorem wp_lstore_n {l : Launch} {G : WG} {μ : MI} {Z : WZ} {pc : Nat} {lv : List (Option Value)} {st : List Value} {h : Hp} {rc rs : Nat} {k : Fin 4} {i : Nat} {x : Int64} {lv' : List (Option Value)} (hd : decode (mC μ) pc = .ok (.lstore_n k, 1)) (hi : (k : Nat) = i) (hz : i + 1 < lv.length) (h9 : lv9 lv i = true) (he : (lv.set i (some (.long x))).set (i + 1) none = lv') (k : wp l G μ Z (pc + 1) lv' st h rc rs) : wp l G μ Z pc lv (.long x :: st) h rc rs := by
  intro p e s m args below meth c C H locs cells slots ls hR hlo hc hs hl hn
  obtain ⟨ls', e', h'⟩ := hl.set2 (v := .long x) hz rfl
  rw [← lsetW_eq lv i _ hz h9] at he
  subst hi
  subst he
  intro T hT X
  have hx := C.1
  have hb := C.2.1
  obtain ⟨t, a, b⟩ := k p e s m args below meth c C H locs cells slots ls' hR hlo hc hs h' (by rw [lsetW_length]; exact hn) T hT X
  refine ⟨t, ?_, b⟩
  jvm_step X.here [X.here.top, ↓top_set X.here.top, hx, hb, hd, e']
  exact a
theorem wp_lstore {l : Launch} {G : WG} {μ : MI} {Z : WZ} {pc : Nat} {lv : List (Option Value)} {st : List Value} {h : Hp} {rc rs : Nat} {i : Nat} {x : Int64} {lv' : List (Option Value)} (hd : decode (mC μ) pc = .ok (.lstore i, 2)) (hz : i + 1 < lv.length) (h9 : lv9 lv i = true) (he : (lv.set i (some (.long x))).set (i + 1) none = lv') (k : wp l G μ Z (pc + 2) lv' st h rc rs) : wp l G μ Z pc lv (.long x :: st) h rc rs := by
  intro p e s m args below meth c C H locs cells slots ls hR hlo hc hs hl hn
  obtain ⟨ls', e', h'⟩ := hl.set2 (v := .long x) hz rfl
  rw [← lsetW_eq lv i _ hz h9] at he
  subst he
  intro T hT X
  have hx := C.1
  have hb := C.2.1
  obtain ⟨t, a, b⟩ := k p e s m args below meth c C H locs cells slots ls' hR hlo hc hs h' (by rw [lsetW_length]; exact hn) T hT X
  refine ⟨t, ?_, b⟩
  jvm_step X.here [X.here.top, ↓top_set X.here.top, hx, hb, hd, e']
  exact a
theorem wp_astore_n {l : Launch} {G : WG} {μ : MI} {Z : WZ} {pc : Nat} {lv : List (Option Value)} {st : List Value} {h : Hp} {rc rs : Nat} {k : Fin 4} {i : Nat} {x : Nat} {lv' : List (Option Value)} (hd : decode (mC μ) pc = .ok (.astore_n k, 1)) (hi : (k : Nat) = i) (hz : i < lv.length) (h9 : lv9 lv i = true) (he : lv.set i (some (.ref x)) = lv') (k : wp l G μ Z (pc + 1) lv' st h rc rs) : wp l G μ Z pc lv (.ref x :: st) h rc rs := by
  intro p e s m args below meth c C H locs cells slots ls hR hlo hc hs hl hn
  obtain ⟨ls', e', h'⟩ := hl.set1 (v := .ref x) hz rfl
  rw [← lset_eq lv i _ h9] at he
  subst hi
  subst he
  intro T hT X
  have hx := C.1
  have hb := C.2.1
  obtain ⟨t, a, b⟩ := k p e s m args below meth c C H locs cells slots ls' hR hlo hc hs h' (by rw [lset_length]; exact hn) T hT X
  refine ⟨t, ?_, b⟩
  jvm_step X.here [X.here.top, ↓top_set X.here.top, hx, hb, hd, e']
  exact ⟨rfl, a⟩
theorem wp_astore {l : Launch} {G : WG} {μ : MI} {Z : WZ} {pc : Nat} {lv : List (Option Value)} {st : List Value} {h : Hp} {rc rs : Nat} {i : Nat} {x : Nat} {lv' : List (Option Value)} (hd : decode (mC μ) pc = .ok (.astore i, 2)) (hz : i < lv.length) (h9 : lv9 lv i = true) (he : lv.set i (some (.ref x)) = lv') (k : wp l G μ Z (pc + 2) lv' st h rc rs) : wp l G μ Z pc lv (.ref x :: st) h rc rs := by
  intro p e s m args below meth c C H locs cells slots ls hR hlo hc hs hl hn
  obtain ⟨ls', e', h'⟩ := hl.set1 (v := .ref x) hz rfl
  rw [← lset_eq lv i _ h9] at he
  subst he
  intro T hT X
  have hx := C.1
  have hb := C.2.1
  obtain ⟨t, a, b⟩ := k p e s m args below meth c C H locs cells slots ls' hR hlo hc hs h' (by rw [lset_length]; exact hn) T hT X
  refine ⟨t, ?_, b⟩
  jvm_step X.here [X.here.top, ↓top_set X.here.top, hx, hb, hd, e']
  exact ⟨rfl, a⟩
theorem wp_astore_nN {l : Launch} {G : WG} {μ : MI} {Z : WZ} {pc : Nat} {lv : List (Option Value)} {st : List Value} {h : Hp} {rc rs : Nat} {k : Fin 4} {i : Nat} {lv' : List (Option Value)} (hd : decode (mC μ) pc = .ok (.astore_n k, 1)) (hi : (k : Nat) = i) (hz : i < lv.length) (h9 : lv9 lv i = true) (he : lv.set i (some (.null)) = lv') (k : wp l G μ Z (pc + 1) lv' st h rc rs) : wp l G μ Z pc lv (.null :: st) h rc rs := by
  intro p e s m args below meth c C H locs cells slots ls hR hlo hc hs hl hn
  obtain ⟨ls', e', h'⟩ := hl.set1 (v := .null) hz rfl
  rw [← lset_eq lv i _ h9] at he
  subst hi
  subst he
  intro T hT X
  have hx := C.1
  have hb := C.2.1
  obtain ⟨t, a, b⟩ := k p e s m args below meth c C H locs cells slots ls' hR hlo hc hs h' (by rw [lset_length]; exact hn) T hT X
  refine ⟨t, ?_, b⟩
  jvm_step X.here [X.here.top, ↓top_set X.here.top, hx, hb, hd, e']
  exact ⟨rfl, a⟩
theorem wp_astoreN {l : Launch} {G : WG} {μ : MI} {Z : WZ} {pc : Nat} {lv : List (Option Value)} {st : List Value} {h : Hp} {rc rs : Nat} {i : Nat} {lv' : List (Option Value)} (hd : decode (mC μ) pc = .ok (.astore i, 2)) (hz : i < lv.length) (h9 : lv9 lv i = true) (he : lv.set i (some (.null)) = lv') (k : wp l G μ Z (pc + 2) lv' st h rc rs) : wp l G μ Z pc lv (.null :: st) h rc rs := by
  intro p e s m args below meth c C H locs cells slots ls hR hlo hc hs hl hn
  obtain ⟨ls', e', h'⟩ := hl.set1 (v := .null) hz rfl
  rw [← lset_eq lv i _ h9] at he
  subst he
  intro T hT X
  have hx := C.1
  have hb := C.2.1
  obtain ⟨t, a, b⟩ := k p e s m args below meth c C H locs cells slots ls' hR hlo hc hs h' (by rw [lset_length]; exact hn) T hT X
  refine ⟨t, ?_, b⟩
  jvm_step X.here [X.here.top, ↓top_set X.here.top, hx, hb, hd, e']
  exact ⟨rfl, a⟩
theorem wp_astore_nQ {l : Launch} {G : WG} {μ : MI} {Z : WZ} {pc : Nat} {lv : List (Option Value)} {st : List Value} {h : Hp} {rc rs : Nat} {k : Fin 4} {i : Nat} {r : Option Nat} {lv' : List (Option Value)} (hd : decode (mC μ) pc = .ok (.astore_n k, 1)) (hi : (k : Nat) = i) (hz : i < lv.length) (h9 : lv9 lv i = true) (he : lv.set i (some (va_rf r)) = lv') (k : wp l G μ Z (pc + 1) lv' st h rc rs) : wp l G μ Z pc lv (va_rf r :: st) h rc rs := by
  cases r with
  | none => exact wp_astore_nN hd hi hz h9 he k
  | some a => exact wp_astore_n hd hi hz h9 he k
theorem wp_astoreQ {l : Launch} {G : WG} {μ : MI} {Z : WZ} {pc : Nat} {lv : List (Option Value)} {st : List Value} {h : Hp} {rc rs : Nat} {i : Nat} {r : Option Nat} {lv' : List (Option Value)} (hd : decode (mC μ) pc = .ok (.astore i, 2)) (hz : i < lv.length) (h9 : lv9 lv i = true) (he : lv.set i (some (va_rf r)) = lv') (k : wp l G μ Z (pc + 2) lv' st h rc rs) : wp l G μ Z pc lv (va_rf r :: st) h rc rs := by
  cases r with
  | none => exact wp_astoreN hd hz h9 he k
  | some a => exact wp_astore hd hz h9 he k
theorem wp_iinc {l : Launch} {G : WG} {μ : MI} {Z : WZ} {pc : Nat} {lv : List (Option Value)} {st : List Value} {h : Hp} {rc rs : Nat} {i : Nat} {n : Int} {x v : Int32} {lv' : List (Option Value)} (hd : decode (mC μ) pc = .ok (.iinc i n, 3)) (hx : lv[i]? = some (some (.int x))) (hv : x + Int32.ofInt n = v) (h9 : lv9 lv i = true) (he : lv.set i (some (.int v)) = lv') (k : wp l G μ Z (pc + 3) lv' st h rc rs) : wp l G μ Z pc lv st h rc rs := by
  intro p e s m args below meth c C H locs cells slots ls hR hlo hc hs hl hn
  have hz : i < lv.length := (List.getElem?_eq_some_iff.mp hx).1
  subst hv
  have hg := hl.2.2 i _ hx
  obtain ⟨ls', e', h'⟩ := hl.set1 (v := .int (x + Int32.ofInt n)) hz rfl
  rw [← lset_eq lv i _ h9] at he
  subst he
  intro T hT X
  have hx := C.1
  have hb := C.2.1
  obtain ⟨t, a, b⟩ := k p e s m args below meth c C H locs cells slots ls' hR hlo hc hs h' (by rw [lset_length]; exact hn) T hT X
  refine ⟨t, ?_, b⟩
  jvm_step X.here [X.here.top, ↓top_set X.here.top, hx, hb, hd, hg, e']
  exact a
theorem wp_iadd {l : Launch} {G : WG} {μ : MI} {Z : WZ} {pc : Nat} {lv : List (Option Value)} {st : List Value} {h : Hp} {rc rs : Nat} {x y : Int32} (hd : decode (mC μ) pc = .ok (.iadd, 1)) (k : wp l G μ Z (pc + 1) lv (.int (x + y) :: st) h rc rs) : wp l G μ Z pc lv (.int y :: .int x :: st) h rc rs := by
  intro p e s m args below meth c C H locs cells slots ls hR hlo hc hs hl hn
  exact lv_iadd C.1 C.2.1 hd (k p e s m args below meth c C H locs cells slots ls hR hlo hc hs hl hn)
theorem wp_isub {l : Launch} {G : WG} {μ : MI} {Z : WZ} {pc : Nat} {lv : List (Option Value)} {st : List Value} {h : Hp} {rc rs : Nat} {x y : Int32} (hd : decode (mC μ) pc = .ok (.isub, 1)) (k : wp l G μ Z (pc + 1) lv (.int (x - y) :: st) h rc rs) : wp l G μ Z pc lv (.int y :: .int x :: st) h rc rs := by
  intro p e s m args below meth c C H locs cells slots ls hR hlo hc hs hl hn
  exact lv_isub C.1 C.2.1 hd (k p e s m args below meth c C H locs cells slots ls hR hlo hc hs hl hn)
theorem wp_imul {l : Launch} {G : WG} {μ : MI} {Z : WZ} {pc : Nat} {lv : List (Option Value)} {st : List Value} {h : Hp} {rc rs : Nat} {x y : Int32} (hd : decode (mC μ) pc = .ok (.imul, 1)) (k : wp l G μ Z (pc + 1) lv (.int (x * y) :: st) h rc rs) : wp l G μ Z pc lv (.int y :: .int x :: st) h rc rs := by
  intro p e s m args below meth c C H locs cells slots ls hR hlo hc hs hl hn
  exact lv_imul C.1 C.2.1 hd (k p e s m args below meth c C H locs cells slots ls hR hlo hc hs hl hn)
theorem wp_iand {l : Launch} {G : WG} {μ : MI} {Z : WZ} {pc : Nat} {lv : List (Option Value)} {st : List Value} {h : Hp} {rc rs : Nat} {x y : Int32} (hd : decode (mC μ) pc = .ok (.iand, 1)) (k : wp l G μ Z (pc + 1) lv (.int (x &&& y) :: st) h rc rs) : wp l G μ Z pc lv (.int y :: .int x :: st) h rc rs := by
  intro p e s m args below meth c C H locs cells slots ls hR hlo hc hs hl hn
  exact lv_iand C.1 C.2.1 hd (k p e s m args below meth c C H locs cells slots ls hR hlo hc hs hl hn)
theorem wp_ior {l : Launch} {G : WG} {μ : MI} {Z : WZ} {pc : Nat} {lv : List (Option Value)} {st : List Value} {h : Hp} {rc rs : Nat} {x y : Int32} (hd : decode (mC μ) pc = .ok (.ior, 1)) (k : wp l G μ Z (pc + 1) lv (.int (x ||| y) :: st) h rc rs) : wp l G μ Z pc lv (.int y :: .int x :: st) h rc rs := by
  intro p e s m args below meth c C H locs cells slots ls hR hlo hc hs hl hn
  exact lv_ior C.1 C.2.1 hd (k p e s m args below meth c C H locs cells slots ls hR hlo hc hs hl hn)
theorem wp_ixor {l : Launch} {G : WG} {μ : MI} {Z : WZ} {pc : Nat} {lv : List (Option Value)} {st : List Value} {h : Hp} {rc rs : Nat} {x y : Int32} (hd : decode (mC μ) pc = .ok (.ixor, 1)) (k : wp l G μ Z (pc + 1) lv (.int (x ^^^ y) :: st) h rc rs) : wp l G μ Z pc lv (.int y :: .int x :: st) h rc rs := by
  intro p e s m args below meth c C H locs cells slots ls hR hlo hc hs hl hn
  exact lv_ixor C.1 C.2.1 hd (k p e s m args below meth c C H locs cells slots ls hR hlo hc hs hl hn)
theorem wp_ladd {l : Launch} {G : WG} {μ : MI} {Z : WZ} {pc : Nat} {lv : List (Option Value)} {st : List Value} {h : Hp} {rc rs : Nat} {x y : Int64} (hd : decode (mC μ) pc = .ok (.ladd, 1)) (k : wp l G μ Z (pc + 1) lv (.long (x + y) :: st) h rc rs) : wp l G μ Z pc lv (.long y :: .long x :: st) h rc rs := by
  intro p e s m args below meth c C H locs cells slots ls hR hlo hc hs hl hn
  exact lv_ladd C.1 C.2.1 hd (k p e s m args below meth c C H locs cells slots ls hR hlo hc hs hl hn)
theorem wp_lsub {l : Launch} {G : WG} {μ : MI} {Z : WZ} {pc : Nat} {lv : List (Option Value)} {st : List Value} {h : Hp} {rc rs : Nat} {x y : Int64} (hd : decode (mC μ) pc = .ok (.lsub, 1)) (k : wp l G μ Z (pc + 1) lv (.long (x - y) :: st) h rc rs) : wp l G μ Z pc lv (.long y :: .long x :: st) h rc rs := by
  intro p e s m args below meth c C H locs cells slots ls hR hlo hc hs hl hn
  exact lv_lsub C.1 C.2.1 hd (k p e s m args below meth c C H locs cells slots ls hR hlo hc hs hl hn)
theorem wp_lmul {l : Launch} {G : WG} {μ : MI} {Z : WZ} {pc : Nat} {lv : List (Option Value)} {st : List Value} {h : Hp} {rc rs : Nat} {x y : Int64} (hd : decode (mC μ) pc = .ok (.lmul, 1)) (k : wp l G μ Z (pc + 1) lv (.long (x * y) :: st) h rc rs) : wp l G μ Z pc lv (.long y :: .long x :: st) h rc rs := by
  intro p e s m args below meth c C H locs cells slots ls hR hlo hc hs hl hn
  exact lv_lmul C.1 C.2.1 hd (k p e s m args below meth c C H locs cells slots ls hR hlo hc hs hl hn)
theorem wp_land {l : Launch} {G : WG} {μ : MI} {Z : WZ} {pc : Nat} {lv : List (Option Value)} {st : List Value} {h : Hp} {rc rs : Nat} {x y : Int64} (hd : decode (mC μ) pc = .ok (.land, 1)) (k : wp l G μ Z (pc + 1) lv (.long (x &&& y) :: st) h rc rs) : wp l G μ Z pc lv (.long y :: .long x :: st) h rc rs := by
  intro p e s m args below meth c C H locs cells slots ls hR hlo hc hs hl hn
  exact lv_land C.1 C.2.1 hd (k p e s m args below meth c C H locs cells slots ls hR hlo hc hs hl hn)
theorem wp_lor {l : Launch} {G : WG} {μ : MI} {Z : WZ} {pc : Nat} {lv : List (Option Value)} {st : List Value} {h : Hp} {rc rs : Nat} {x y : Int64} (hd : decode (mC μ) pc = .ok (.lor, 1)) (k : wp l G μ Z (pc + 1) lv (.long (x ||| y) :: st) h rc rs) : wp l G μ Z pc lv (.long y :: .long x :: st) h rc rs := by
  intro p e s m args below meth c C H locs cells slots ls hR hlo hc hs hl hn
  exact lv_lor C.1 C.2.1 hd (k p e s m args below meth c C H locs cells slots ls hR hlo hc hs hl hn)
theorem wp_idiv {l : Launch} {G : WG} {μ : MI} {Z : WZ} {pc : Nat} {lv : List (Option Value)} {st : List Value} {h : Hp} {rc rs : Nat} {x y : Int32} (hd : decode (mC μ) pc = .ok (.idiv, 1)) (hne : ¬ y = 0) (k : wp l G μ Z (pc + 1) lv (.int (x / y) :: st) h rc rs) : wp l G μ Z pc lv (.int y :: .int x :: st) h rc rs := by
  intro p e s m args below meth c C H locs cells slots ls hR hlo hc hs hl hn
  exact lv_idiv C.1 C.2.1 hd hne (k p e s m args below meth c C H locs cells slots ls hR hlo hc hs hl hn)
theorem wp_irem {l : Launch} {G : WG} {μ : MI} {Z : WZ} {pc : Nat} {lv : List (Option Value)} {st : List Value} {h : Hp} {rc rs : Nat} {x y : Int32} (hd : decode (mC μ) pc = .ok (.irem, 1)) (hne : ¬ y = 0) (k : wp l G μ Z (pc + 1) lv (.int (x - x / y * y) :: st) h rc rs) : wp l G μ Z pc lv (.int y :: .int x :: st) h rc rs := by
  intro p e s m args below meth c C H locs cells slots ls hR hlo hc hs hl hn
  exact lv_irem C.1 C.2.1 hd hne (k p e s m args below meth c C H locs cells slots ls hR hlo hc hs hl hn)
theorem wp_ldiv {l : Launch} {G : WG} {μ : MI} {Z : WZ} {pc : Nat} {lv : List (Option Value)} {st : List Value} {h : Hp} {rc rs : Nat} {x y : Int64} (hd : decode (mC μ) pc = .ok (.ldiv, 1)) (hne : ¬ y = 0) (k : wp l G μ Z (pc + 1) lv (.long (x / y) :: st) h rc rs) : wp l G μ Z pc lv (.long y :: .long x :: st) h rc rs := by
  intro p e s m args below meth c C H locs cells slots ls hR hlo hc hs hl hn
  exact lv_ldiv C.1 C.2.1 hd hne (k p e s m args below meth c C H locs cells slots ls hR hlo hc hs hl hn)
theorem wp_ishr {l : Launch} {G : WG} {μ : MI} {Z : WZ} {pc : Nat} {lv : List (Option Value)} {st : List Value} {h : Hp} {rc rs : Nat} {x y : Int32} (hd : decode (mC μ) pc = .ok (.ishr, 1)) (k : wp l G μ Z (pc + 1) lv (.int (x >>> (y &&& 31)) :: st) h rc rs) : wp l G μ Z pc lv (.int y :: .int x :: st) h rc rs := by
  intro p e s m args below meth c C H locs cells slots ls hR hlo hc hs hl hn
  exact lv_ishr C.1 C.2.1 hd (k p e s m args below meth c C H locs cells slots ls hR hlo hc hs hl hn)
theorem wp_i2l {l : Launch} {G : WG} {μ : MI} {Z : WZ} {pc : Nat} {lv : List (Option Value)} {st : List Value} {h : Hp} {rc rs : Nat} {x : Int32} (hd : decode (mC μ) pc = .ok (.i2l, 1)) (k : wp l G μ Z (pc + 1) lv (.long x.toInt64 :: st) h rc rs) : wp l G μ Z pc lv (.int x :: st) h rc rs := by
  intro p e s m args below meth c C H locs cells slots ls hR hlo hc hs hl hn
  exact lv_i2l C.1 C.2.1 hd rfl (k p e s m args below meth c C H locs cells slots ls hR hlo hc hs hl hn)
theorem wp_l2i {l : Launch} {G : WG} {μ : MI} {Z : WZ} {pc : Nat} {lv : List (Option Value)} {st : List Value} {h : Hp} {rc rs : Nat} {x : Int64} (hd : decode (mC μ) pc = .ok (.l2i, 1)) (k : wp l G μ Z (pc + 1) lv (.int x.toInt32 :: st) h rc rs) : wp l G μ Z pc lv (.long x :: st) h rc rs := by
  intro p e s m args below meth c C H locs cells slots ls hR hlo hc hs hl hn
  exact lv_l2i C.1 C.2.1 hd rfl (k p e s m args below meth c C H locs cells slots ls hR hlo hc hs hl hn)
theorem wp_lshl {l : Launch} {G : WG} {μ : MI} {Z : WZ} {pc : Nat} {lv : List (Option Value)} {st : List Value} {h : Hp} {rc rs : Nat} {x : Int64} {y : Int32} {v : Int64} (hd : decode (mC μ) pc = .ok (.lshl, 1)) (hv : x <<< (y.toInt64 &&& 63) = v) (k : wp l G μ Z (pc + 1) lv (.long v :: st) h rc rs) : wp l G μ Z pc lv (.int y :: .long x :: st) h rc rs := by
  intro p e s m args below meth c C H locs cells slots ls hR hlo hc hs hl hn
  exact lv_lshl C.1 C.2.1 hd hv (k p e s m args below meth c C H locs cells slots ls hR hlo hc hs hl hn)
theorem wp_lcmp {l : Launch} {G : WG} {μ : MI} {Z : WZ} {pc : Nat} {lv : List (Option Value)} {st : List Value} {h : Hp} {rc rs : Nat} {x y : Int64} (hd : decode (mC μ) pc = .ok (.lcmp, 1)) (k : wp l G μ Z (pc + 1) lv (.int (lg_cmp x y) :: st) h rc rs) : wp l G μ Z pc lv (.long y :: .long x :: st) h rc rs := by
  intro p e s m args below meth c C H locs cells slots ls hR hlo hc hs hl hn
  exact W.lcmp C.1 C.2.1 hd (k p e s m args below meth c C H locs cells slots ls hR hlo hc hs hl hn)
theorem wp_dup {l : Launch} {G : WG} {μ : MI} {Z : WZ} {pc : Nat} {lv : List (Option Value)} {st : List Value} {h : Hp} {rc rs : Nat} {va : Value} (hd : decode (mC μ) pc = .ok (.dup, 1)) (hva : va.category = 1) (k : wp l G μ Z (pc + 1) lv (va :: va :: st) h rc rs) : wp l G μ Z pc lv (va :: st) h rc rs := by
  intro p e s m args below meth c C H locs cells slots ls hR hlo hc hs hl hn
  exact lv_dup C.1 C.2.1 hd hva (k p e s m args below meth c C H locs cells slots ls hR hlo hc hs hl hn)
theorem wp_pop {l : Launch} {G : WG} {μ : MI} {Z : WZ} {pc : Nat} {lv : List (Option Value)} {st : List Value} {h : Hp} {rc rs : Nat} {va : Value} (hd : decode (mC μ) pc = .ok (.pop, 1)) (hva : va.category = 1) (k : wp l G μ Z (pc + 1) lv (st) h rc rs) : wp l G μ Z pc lv (va :: st) h rc rs := by
  intro p e s m args below meth c C H locs cells slots ls hR hlo hc hs hl hn
  exact lv_pop C.1 C.2.1 hd hva (k p e s m args below meth c C H locs cells slots ls hR hlo hc hs hl hn)
theorem wp_dup_x1 {l : Launch} {G : WG} {μ : MI} {Z : WZ} {pc : Nat} {lv : List (Option Value)} {st : List Value} {h : Hp} {rc rs : Nat} {va vb : Value} (hd : decode (mC μ) pc = .ok (.dup_x1, 1)) (hva : va.category = 1) (hvb : vb.category = 1) (k : wp l G μ Z (pc + 1) lv (va :: vb :: va :: st) h rc rs) : wp l G μ Z pc lv (va :: vb :: st) h rc rs := by
  intro p e s m args below meth c C H locs cells slots ls hR hlo hc hs hl hn
  exact lv_dup_x1 C.1 C.2.1 hd hva hvb (k p e s m args below meth c C H locs cells slots ls hR hlo hc hs hl hn)
theorem wp_dup2 {l : Launch} {G : WG} {μ : MI} {Z : WZ} {pc : Nat} {lv : List (Option Value)} {st : List Value} {h : Hp} {rc rs : Nat} {va vb : Value} (hd : decode (mC μ) pc = .ok (.dup2, 1)) (hva : va.category = 1) (hvb : vb.category = 1) (k : wp l G μ Z (pc + 1) lv (va :: vb :: va :: vb :: st) h rc rs) : wp l G μ Z pc lv (va :: vb :: st) h rc rs := by
  intro p e s m args below meth c C H locs cells slots ls hR hlo hc hs hl hn
  exact lv_dup2_11 C.1 C.2.1 hd hva hvb (k p e s m args below meth c C H locs cells slots ls hR hlo hc hs hl hn)
theorem wp_if_eq {l : Launch} {G : WG} {μ : MI} {Z : WZ} {pc : Nat} {lv : List (Option Value)} {st : List Value} {h : Hp} {rc rs : Nat} {x : Int32} {off : Int} {tgt : Nat} (hd : decode (mC μ) pc = .ok (.ifCond .eq off, 3)) (ht : (pc : Int) + off = (tgt : Int)) (kt : x = 0 → wp l G μ Z tgt lv (st) h rc rs) (kf : ¬ (x = 0) → wp l G μ Z (pc + 3) lv (st) h rc rs) : wp l G μ Z pc lv (.int x :: st) h rc rs := by
  intro p e s m args below meth c C H locs cells slots ls hR hlo hc hs hl hn
  exact lv_if_eq C.1 C.2.1 hd ht (fun z => kt z p e s m args below meth c C H locs cells slots ls hR hlo hc hs hl hn) (fun z => kf z p e s m args below meth c C H locs cells slots ls hR hlo hc hs hl hn)
theorem wp_icmp_eq {l : Launch} {G : WG} {μ : MI} {Z : WZ} {pc : Nat} {lv : List (Option Value)} {st : List Value} {h : Hp} {rc rs : Nat} {x y : Int32} {off : Int} {tgt : Nat} (hd : decode (mC μ) pc = .ok (.if_icmp .eq off, 3)) (ht : (pc : Int) + off = (tgt : Int)) (kt : x = y → wp l G μ Z tgt lv (st) h rc rs) (kf : ¬ (x = y) → wp l G μ Z (pc + 3) lv (st) h rc rs) : wp l G μ Z pc lv (.int y :: .int x :: st) h rc rs := by
  intro p e s m args below meth c C H locs cells slots ls hR hlo hc hs hl hn
  exact lv_icmp_eq C.1 C.2.1 hd ht (fun z => kt z p e s m args below meth c C H locs cells slots ls hR hlo hc hs hl hn) (fun z => kf z p e s m args below meth c C H locs cells slots ls hR hlo hc hs hl hn)
theorem wp_if_ne {l : Launch} {G : WG} {μ : MI} {Z : WZ} {pc : Nat} {lv : List (Option Value)} {st : List Value} {h : Hp} {rc rs : Nat} {x : Int32} {off : Int} {tgt : Nat} (hd : decode (mC μ) pc = .ok (.ifCond .ne off, 3)) (ht : (pc : Int) + off = (tgt : Int)) (kt : ¬ x = 0 → wp l G μ Z tgt lv (st) h rc rs) (kf : x = 0 → wp l G μ Z (pc + 3) lv (st) h rc rs) : wp l G μ Z pc lv (.int x :: st) h rc rs := by
  intro p e s m args below meth c C H locs cells slots ls hR hlo hc hs hl hn
  exact lv_if_ne C.1 C.2.1 hd ht (fun z => kt z p e s m args below meth c C H locs cells slots ls hR hlo hc hs hl hn) (fun z => kf z p e s m args below meth c C H locs cells slots ls hR hlo hc hs hl hn)
theorem wp_icmp_ne {l : Launch} {G : WG} {μ : MI} {Z : WZ} {pc : Nat} {lv : List (Option Value)} {st : List Value} {h : Hp} {rc rs : Nat} {x y : Int32} {off : Int} {tgt : Nat} (hd : decode (mC μ) pc = .ok (.if_icmp .ne off, 3)) (ht : (pc : Int) + off = (tgt : Int)) (kt : ¬ x = y → wp l G μ Z tgt lv (st) h rc rs) (kf : x = y → wp l G μ Z (pc + 3) lv (st) h rc rs) : wp l G μ Z pc lv (.int y :: .int x :: st) h rc rs := by
  intro p e s m args below meth c C H locs cells slots ls hR hlo hc hs hl hn
  exact lv_icmp_ne C.1 C.2.1 hd ht (fun z => kt z p e s m args below meth c C H locs cells slots ls hR hlo hc hs hl hn) (fun z => kf z p e s m args below meth c C H locs cells slots ls hR hlo hc hs hl hn)
theorem wp_if_lt {l : Launch} {G : WG} {μ : MI} {Z : WZ} {pc : Nat} {lv : List (Option Value)} {st : List Value} {h : Hp} {rc rs : Nat} {x : Int32} {off : Int} {tgt : Nat} (hd : decode (mC μ) pc = .ok (.ifCond .lt off, 3)) (ht : (pc : Int) + off = (tgt : Int)) (kt : x < 0 → wp l G μ Z tgt lv (st) h rc rs) (kf : ¬ (x < 0) → wp l G μ Z (pc + 3) lv (st) h rc rs) : wp l G μ Z pc lv (.int x :: st) h rc rs := by
  intro p e s m args below meth c C H locs cells slots ls hR hlo hc hs hl hn
  exact lv_if_lt C.1 C.2.1 hd ht (fun z => kt z p e s m args below meth c C H locs cells slots ls hR hlo hc hs hl hn) (fun z => kf z p e s m args below meth c C H locs cells slots ls hR hlo hc hs hl hn)
theorem wp_icmp_lt {l : Launch} {G : WG} {μ : MI} {Z : WZ} {pc : Nat} {lv : List (Option Value)} {st : List Value} {h : Hp} {rc rs : Nat} {x y : Int32} {off : Int} {tgt : Nat} (hd : decode (mC μ) pc = .ok (.if_icmp .lt off, 3)) (ht : (pc : Int) + off = (tgt : Int)) (kt : x < y → wp l G μ Z tgt lv (st) h rc rs) (kf : ¬ (x < y) → wp l G μ Z (pc + 3) lv (st) h rc rs) : wp l G μ Z pc lv (.int y :: .int x :: st) h rc rs := by
  intro p e s m args below meth c C H locs cells slots ls hR hlo hc hs hl hn
  exact lv_icmp_lt C.1 C.2.1 hd ht (fun z => kt z p e s m args below meth c C H locs cells slots ls hR hlo hc hs hl hn) (fun z => kf z p e s m args below meth c C H locs cells slots ls hR hlo hc hs hl hn)
theorem wp_if_ge {l : Launch} {G : WG} {μ : MI} {Z : WZ} {pc : Nat} {lv : List (Option Value)} {st : List Value} {h : Hp} {rc rs : Nat} {x : Int32} {off : Int} {tgt : Nat} (hd : decode (mC μ) pc = .ok (.ifCond .ge off, 3)) (ht : (pc : Int) + off = (tgt : Int)) (kt : 0 ≤ x → wp l G μ Z tgt lv (st) h rc rs) (kf : ¬ (0 ≤ x) → wp l G μ Z (pc + 3) lv (st) h rc rs) : wp l G μ Z pc lv (.int x :: st) h rc rs := by
  intro p e s m args below meth c C H locs cells slots ls hR hlo hc hs hl hn
  exact lv_if_ge C.1 C.2.1 hd ht (fun z => kt z p e s m args below meth c C H locs cells slots ls hR hlo hc hs hl hn) (fun z => kf z p e s m args below meth c C H locs cells slots ls hR hlo hc hs hl hn)
theorem wp_icmp_ge {l : Launch} {G : WG} {μ : MI} {Z : WZ} {pc : Nat} {lv : List (Option Value)} {st : List Value} {h : Hp} {rc rs : Nat} {x y : Int32} {off : Int} {tgt : Nat} (hd : decode (mC μ) pc = .ok (.if_icmp .ge off, 3)) (ht : (pc : Int) + off = (tgt : Int)) (kt : y ≤ x → wp l G μ Z tgt lv (st) h rc rs) (kf : ¬ (y ≤ x) → wp l G μ Z (pc + 3) lv (st) h rc rs) : wp l G μ Z pc lv (.int y :: .int x :: st) h rc rs := by
  intro p e s m args below meth c C H locs cells slots ls hR hlo hc hs hl hn
  exact lv_icmp_ge C.1 C.2.1 hd ht (fun z => kt z p e s m args below meth c C H locs cells slots ls hR hlo hc hs hl hn) (fun z => kf z p e s m args below meth c C H locs cells slots ls hR hlo hc hs hl hn)
theorem wp_if_gt {l : Launch} {G : WG} {μ : MI} {Z : WZ} {pc : Nat} {lv : List (Option Value)} {st : List Value} {h : Hp} {rc rs : Nat} {x : Int32} {off : Int} {tgt : Nat} (hd : decode (mC μ) pc = .ok (.ifCond .gt off, 3)) (ht : (pc : Int) + off = (tgt : Int)) (kt : 0 < x → wp l G μ Z tgt lv (st) h rc rs) (kf : ¬ (0 < x) → wp l G μ Z (pc + 3) lv (st) h rc rs) : wp l G μ Z pc lv (.int x :: st) h rc rs := by
  intro p e s m args below meth c C H locs cells slots ls hR hlo hc hs hl hn
  exact lv_if_gt C.1 C.2.1 hd ht (fun z => kt z p e s m args below meth c C H locs cells slots ls hR hlo hc hs hl hn) (fun z => kf z p e s m args below meth c C H locs cells slots ls hR hlo hc hs hl hn)
theorem wp_icmp_gt {l : Launch} {G : WG} {μ : MI} {Z : WZ} {pc : Nat} {lv : List (Option Value)} {st : List Value} {h : Hp} {rc rs : Nat} {x y : Int32} {off : Int} {tgt : Nat} (hd : decode (mC μ) pc = .ok (.if_icmp .gt off, 3)) (ht : (pc : Int) + off = (tgt : Int)) (kt : y < x → wp l G μ Z tgt lv (st) h rc rs) (kf : ¬ (y < x) → wp l G μ Z (pc + 3) lv (st) h rc rs) : wp l G μ Z pc lv (.int y :: .int x :: st) h rc rs := by
  intro p e s m args below meth c C H locs cells slots ls hR hlo hc hs hl hn
  exact lv_icmp_gt C.1 C.2.1 hd ht (fun z => kt z p e s m args below meth c C H locs cells slots ls hR hlo hc hs hl hn) (fun z => kf z p e s m args below meth c C H locs cells slots ls hR hlo hc hs hl hn)
theorem wp_if_le {l : Launch} {G : WG} {μ : MI} {Z : WZ} {pc : Nat} {lv : List (Option Value)} {st : List Value} {h : Hp} {rc rs : Nat} {x : Int32} {off : Int} {tgt : Nat} (hd : decode (mC μ) pc = .ok (.ifCond .le off, 3)) (ht : (pc : Int) + off = (tgt : Int)) (kt : x ≤ 0 → wp l G μ Z tgt lv (st) h rc rs) (kf : ¬ (x ≤ 0) → wp l G μ Z (pc + 3) lv (st) h rc rs) : wp l G μ Z pc lv (.int x :: st) h rc rs := by
  intro p e s m args below meth c C H locs cells slots ls hR hlo hc hs hl hn
  exact lv_if_le C.1 C.2.1 hd ht (fun z => kt z p e s m args below meth c C H locs cells slots ls hR hlo hc hs hl hn) (fun z => kf z p e s m args below meth c C H locs cells slots ls hR hlo hc hs hl hn)
theorem wp_icmp_le {l : Launch} {G : WG} {μ : MI} {Z : WZ} {pc : Nat} {lv : List (Option Value)} {st : List Value} {h : Hp} {rc rs : Nat} {x y : Int32} {off : Int} {tgt : Nat} (hd : decode (mC μ) pc = .ok (.if_icmp .le off, 3)) (ht : (pc : Int) + off = (tgt : Int)) (kt : x ≤ y → wp l G μ Z tgt lv (st) h rc rs) (kf : ¬ (x ≤ y) → wp l G μ Z (pc + 3) lv (st) h rc rs) : wp l G μ Z pc lv (.int y :: .int x :: st) h rc rs := by
  intro p e s m args below meth c C H locs cells slots ls hR hlo hc hs hl hn
  exact lv_icmp_le C.1 C.2.1 hd ht (fun z => kt z p e s m args below meth c C H locs cells slots ls hR hlo hc hs hl hn) (fun z => kf z p e s m args below meth c C H locs cells slots ls hR hlo hc hs hl hn)
theorem wp_acmp_eq {l : Launch} {G : WG} {μ : MI} {Z : WZ} {pc : Nat} {lv : List (Option Value)} {st : List Value} {h : Hp} {rc rs : Nat} {rx ry : Option Nat} {off : Int} {tgt : Nat} (hd : decode (mC μ) pc = .ok (.if_acmp .eq off, 3)) (ht : (pc : Int) + off = (tgt : Int)) (kt : rx = ry → wp l G μ Z tgt lv (st) h rc rs) (kf : ¬ (rx = ry) → wp l G μ Z (pc + 3) lv (st) h rc rs) : wp l G μ Z pc lv (va_rf ry :: va_rf rx :: st) h rc rs := by
  intro p e s m args below meth c C H locs cells slots ls hR hlo hc hs hl hn
  exact lv_acmp_eq C.1 C.2.1 hd ht (fun z => kt z p e s m args below meth c C H locs cells slots ls hR hlo hc hs hl hn) (fun z => kf z p e s m args below meth c C H locs cells slots ls hR hlo hc hs hl hn)
theorem wp_acmp_ne {l : Launch} {G : WG} {μ : MI} {Z : WZ} {pc : Nat} {lv : List (Option Value)} {st : List Value} {h : Hp} {rc rs : Nat} {rx ry : Option Nat} {off : Int} {tgt : Nat} (hd : decode (mC μ) pc = .ok (.if_acmp .ne off, 3)) (ht : (pc : Int) + off = (tgt : Int)) (kt : ¬ rx = ry → wp l G μ Z tgt lv (st) h rc rs) (kf : rx = ry → wp l G μ Z (pc + 3) lv (st) h rc rs) : wp l G μ Z pc lv (va_rf ry :: va_rf rx :: st) h rc rs := by
  intro p e s m args below meth c C H locs cells slots ls hR hlo hc hs hl hn
  exact lv_acmp_ne C.1 C.2.1 hd ht (fun z => kt z p e s m args below meth c C H locs cells slots ls hR hlo hc hs hl hn) (fun z => kf z p e s m args below meth c C H locs cells slots ls hR hlo hc hs hl hn)
theorem wp_goto {l : Launch} {G : WG} {μ : MI} {Z : WZ} {pc : Nat} {lv : List (Option Value)} {st : List Value} {h : Hp} {rc rs : Nat} {off : Int} {tgt : Nat} (hd : decode (mC μ) pc = .ok (.goto off, 3)) (ht : (pc : Int) + off = (tgt : Int)) (k : wp l G μ Z tgt lv st h rc rs) : wp l G μ Z pc lv st h rc rs := by
  intro p e s m args below meth c C H locs cells slots ls hR hlo hc hs hl hn
  exact lv_goto C.1 C.2.1 hd ht (k p e s m args below meth c C H locs cells slots ls hR hlo hc hs hl hn)
theorem wp_ifnull {l : Launch} {G : WG} {μ : MI} {Z : WZ} {pc : Nat} {lv : List (Option Value)} {st : List Value} {h : Hp} {rc rs : Nat} {r : Option Nat} {off : Int} {tgt : Nat} (hd : decode (mC μ) pc = .ok (.ifnull off, 3)) (ht : (pc : Int) + off = (tgt : Int)) (kt : r = none → wp l G μ Z tgt lv st h rc rs) (kf : ∀ a, r = some a → wp l G μ Z (pc + 3) lv st h rc rs) : wp l G μ Z pc lv (va_rf r :: st) h rc rs := by
  intro p e s m args below meth c C H locs cells slots ls hR hlo hc hs hl hn
  cases r with
  | none => exact lv_ifnullN C.1 C.2.1 hd ht (kt rfl p e s m args below meth c C H locs cells slots ls hR hlo hc hs hl hn)
  | some a => exact lv_ifnull C.1 C.2.1 hd (kf a rfl p e s m args below meth c C H locs cells slots ls hR hlo hc hs hl hn)
theorem wp_ifnonnull {l : Launch} {G : WG} {μ : MI} {Z : WZ} {pc : Nat} {lv : List (Option Value)} {st : List Value} {h : Hp} {rc rs : Nat} {r : Option Nat} {off : Int} {tgt : Nat} (hd : decode (mC μ) pc = .ok (.ifnonnull off, 3)) (ht : (pc : Int) + off = (tgt : Int)) (kt : ∀ a, r = some a → wp l G μ Z tgt lv st h rc rs) (kf : r = none → wp l G μ Z (pc + 3) lv st h rc rs) : wp l G μ Z pc lv (va_rf r :: st) h rc rs := by
  intro p e s m args below meth c C H locs cells slots ls hR hlo hc hs hl hn
  cases r with
  | none => exact lv_ifnonnullN C.1 C.2.1 hd (kf rfl p e s m args below meth c C H locs cells slots ls hR hlo hc hs hl hn)
  | some a => exact lv_ifnonnull C.1 C.2.1 hd ht (kt a rfl p e s m args below meth c C H locs cells slots ls hR hlo hc hs hl hn)
theorem wp_ifnullR {l : Launch} {G : WG} {μ : MI} {Z : WZ} {pc : Nat} {lv : List (Option Value)} {st : List Value} {h : Hp} {rc rs : Nat} {a : Nat} {off : Int} (hd : decode (mC μ) pc = .ok (.ifnull off, 3)) (k : wp l G μ Z (pc + 3) lv st h rc rs) : wp l G μ Z pc lv (.ref a :: st) h rc rs := by
  intro p e s m args below meth c C H locs cells slots ls hR hlo hc hs hl hn
  exact lv_ifnull C.1 C.2.1 hd (k p e s m args below meth c C H locs cells slots ls hR hlo hc hs hl hn)
theorem wp_ifnullN {l : Launch} {G : WG} {μ : MI} {Z : WZ} {pc : Nat} {lv : List (Option Value)} {st : List Value} {h : Hp} {rc rs : Nat} {off : Int} {tgt : Nat} (hd : decode (mC μ) pc = .ok (.ifnull off, 3)) (ht : (pc : Int) + off = (tgt : Int)) (k : wp l G μ Z tgt lv st h rc rs) : wp l G μ Z pc lv (.null :: st) h rc rs := by
  intro p e s m args below meth c C H locs cells slots ls hR hlo hc hs hl hn
  exact lv_ifnullN C.1 C.2.1 hd ht (k p e s m args below meth c C H locs cells slots ls hR hlo hc hs hl hn)
theorem wp_ifnonnullR {l : Launch} {G : WG} {μ : MI} {Z : WZ} {pc : Nat} {lv : List (Option Value)} {st : List Value} {h : Hp} {rc rs : Nat} {a : Nat} {off : Int} {tgt : Nat} (hd : decode (mC μ) pc = .ok (.ifnonnull off, 3)) (ht : (pc : Int) + off = (tgt : Int)) (k : wp l G μ Z tgt lv st h rc rs) : wp l G μ Z pc lv (.ref a :: st) h rc rs := by
  intro p e s m args below meth c C H locs cells slots ls hR hlo hc hs hl hn
  exact lv_ifnonnull C.1 C.2.1 hd ht (k p e s m args below meth c C H locs cells slots ls hR hlo hc hs hl hn)
theorem wp_ifnonnullN {l : Launch} {G : WG} {μ : MI} {Z : WZ} {pc : Nat} {lv : List (Option Value)} {st : List Value} {h : Hp} {rc rs : Nat} {off : Int} (hd : decode (mC μ) pc = .ok (.ifnonnull off, 3)) (k : wp l G μ Z (pc + 3) lv st h rc rs) : wp l G μ Z pc lv (.null :: st) h rc rs := by
  intro p e s m args below meth c C H locs cells slots ls hR hlo hc hs hl hn
  exact lv_ifnonnullN C.1 C.2.1 hd (k p e s m args below meth c C H locs cells slots ls hR hlo hc hs hl hn)
theorem wp_tableIn {l : Launch} {G : WG} {μ : MI} {Z : WZ} {pc : Nat} {lv : List (Option Value)} {st : List Value} {h : Hp} {rc rs : Nat} {dflt lo hi : Int} {offs : Array Int} {len : Nat} {x : Int32} {off : Int} {tgt : Nat} (hd : decode (mC μ) pc = .ok (.tableswitch dflt lo hi offs, len)) (h1 : ¬ x.toInt < lo) (h2 : ¬ hi < x.toInt) (ho : offs[(x.toInt - lo).toNat]? = some off) (ht : (pc : Int) + off = (tgt : Int)) (k : wp l G μ Z tgt lv st h rc rs) : wp l G μ Z pc lv (.int x :: st) h rc rs := by
  intro p e s m args below meth c C H locs cells slots ls hR hlo hc hs hl hn
  exact lv_tableIn C.1 C.2.1 hd h1 h2 ho ht (k p e s m args below meth c C H locs cells slots ls hR hlo hc hs hl hn)
theorem wp_tableOut {l : Launch} {G : WG} {μ : MI} {Z : WZ} {pc : Nat} {lv : List (Option Value)} {st : List Value} {h : Hp} {rc rs : Nat} {dflt lo hi : Int} {offs : Array Int} {len : Nat} {x : Int32} {tgt : Nat} (hd : decode (mC μ) pc = .ok (.tableswitch dflt lo hi offs, len)) (ho : x.toInt < lo ∨ hi < x.toInt) (ht : (pc : Int) + dflt = (tgt : Int)) (k : wp l G μ Z tgt lv st h rc rs) : wp l G μ Z pc lv (.int x :: st) h rc rs := by
  intro p e s m args below meth c C H locs cells slots ls hR hlo hc hs hl hn
  exact lv_tableOut C.1 C.2.1 hd ho ht (k p e s m args below meth c C H locs cells slots ls hR hlo hc hs hl hn)
theorem wp_lookup {l : Launch} {G : WG} {μ : MI} {Z : WZ} {pc : Nat} {lv : List (Option Value)} {st : List Value} {h : Hp} {rc rs : Nat} {dflt : Int} {ps : Array (Int × Int)} {len : Nat} {x : Int32} {off : Int} {tgt : Nat} (hd : decode (mC μ) pc = .ok (.lookupswitch dflt ps, len)) (hp : (ps.toList.zip (ps.toList.drop 1)).all (fun (a, next) => a.1 < next.1) = true) (ho : Op.lookupswitch.offset ps.toList dflt x.toInt = off) (ht : (pc : Int) + off = (tgt : Int)) (k : wp l G μ Z tgt lv st h rc rs) : wp l G μ Z pc lv (.int x :: st) h rc rs := by
  intro p e s m args below meth c C H locs cells slots ls hR hlo hc hs hl hn
  exact lv_lookup C.1 C.2.1 hd hp ho ht (k p e s m args below meth c C H locs cells slots ls hR hlo hc hs hl hn)
theorem wp_ldc {l : Launch} {G : WG} {μ : MI} {Z : WZ} {pc : Nat} {lv : List (Option Value)} {st : List Value} {h : Hp} {rc rs : Nat} {index : Nat} {v : Int32} (hd : decode (mC μ) pc = .ok (.ldc index, 2)) (hw : Cond.constant (mY μ).cls index v ∈ lw_tbl) (k : wp l G μ Z (pc + 2) lv (.int v :: st) h rc rs) : wp l G μ Z pc lv (st) h rc rs := by
  intro p e s m args below meth c C H locs cells slots ls hR hlo hc hs hl hn
  exact lv_ldc C.1 C.2.1 C.2.2.2.2.1 (C.2.2.2.2.2.1 _ (wt_mem hw rfl)) hd (k p e s m args below meth c C H locs cells slots ls hR hlo hc hs hl hn)
theorem wp_ldc_w {l : Launch} {G : WG} {μ : MI} {Z : WZ} {pc : Nat} {lv : List (Option Value)} {st : List Value} {h : Hp} {rc rs : Nat} {index : Nat} {v : Int32} (hd : decode (mC μ) pc = .ok (.ldc_w index, 3)) (hw : Cond.constant (mY μ).cls index v ∈ lw_tbl) (k : wp l G μ Z (pc + 3) lv (.int v :: st) h rc rs) : wp l G μ Z pc lv (st) h rc rs := by
  intro p e s m args below meth c C H locs cells slots ls hR hlo hc hs hl hn
  exact lv_ldcw C.1 C.2.1 C.2.2.2.2.1 (C.2.2.2.2.2.1 _ (wt_mem hw rfl)) hd (k p e s m args below meth c C H locs cells slots ls hR hlo hc hs hl hn)
theorem wp_ldc2_w {l : Launch} {G : WG} {μ : MI} {Z : WZ} {pc : Nat} {lv : List (Option Value)} {st : List Value} {h : Hp} {rc rs : Nat} {index : Nat} {v : Int64} (hd : decode (mC μ) pc = .ok (.ldc2_w index, 3)) (hw : Cond.constantLong (mY μ).cls index v ∈ lw_tbl) (k : wp l G μ Z (pc + 3) lv (.long v :: st) h rc rs) : wp l G μ Z pc lv (st) h rc rs := by
  intro p e s m args below meth c C H locs cells slots ls hR hlo hc hs hl hn
  exact lv_ldc2 C.1 C.2.1 C.2.2.2.2.1 (C.2.2.2.2.2.1 _ (wt_mem hw rfl)) hd (k p e s m args below meth c C H locs cells slots ls hR hlo hc hs hl hn)
