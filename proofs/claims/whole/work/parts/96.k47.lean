/-! ===== an array of arrays: multianewarray with two counts ===== -/
/-- the outer row with i of its rows laid -/
def mlO (c2 : ClassId) (N z i : Nat) : Cell := arrV c2 N (fun j => va_rf (if j < i then some (z + 1 + j) else none))
theorem mlO_step (c2 : ClassId) (N z i : Nat) : (mlO c2 N z i).setSlot i (.ref (z + 1 + i)) = mlO c2 N z (i + 1) := by
  unfold mlO
  rw [arrV_store]
  congr 1
  funext q
  by_cases hq : q = i
  · subst hq; simp [updV, va_rf]
  · have h1 : (q < i + 1) ↔ (q < i) := by omega
    simp [updV, hq, h1]
def mlI (p : Program) (l : Launch) (e : Env) (R : Room) (s : State) (m : MethodId) (args : Array Value) (below : List Frame) (meth : Method) (c : Code) (locs : List Loc) (cells slots : Nat) (vm1 : Vm) (c1 c2 : ClassId) (N M z : Nat) (H : Heap) (i : Nat) (U : State) : Prop :=
  U.vm = vm1 ∧ Jvm.Stand p l e R s m args below meth c U (locs ++ (List.range i).map (fun j => (⟨z, j⟩ : Loc))) (cells + 1 + i) (slots + N + i * M) ∧ U.heap.size = z + 1 + i ∧ U.heap[z]? = some (mlO c2 N z i) ∧ (∀ q : Nat, q < z → U.heap[q]? = H[q]?) ∧ ∀ j : Nat, j < i → U.heap[z + 1 + j]? = some (arrV c1 M (fun _ => .long 0))
theorem mlI_step {E : Jvm.CtlPost} {p : Program} {l : Launch} {e : Env} {R : Room} {s : State} {m : MethodId} {args : Array Value} {below : List Frame} {meth : Method} {c : Code} {locs : List Loc} {cells slots : Nat} {vm1 : Vm} {c1 c2 comp1 : ClassId} {k1 k2 : Class} {N M z : Nat} {H : Heap} {i : Nat} {U : State} {n : Int32} {f : JFrame} {d : Bool} {acts : List Jvm.Action} {Q' : ForInStep PUnit → Jvm.Pre}
    (hk1 : vm1.classes[c1]? = some k1) (hkind1 : k1.kind = .array comp1 .long) (hk2 : vm1.classes[c2]? = some k2) (hkind2 : k2.kind = .array c1 (.array .long)) (hn : ¬ n < 0) (hM : n.toNatClampNeg = M) (hM2 : M ≤ 65536) (hi : i < N) (hrc : cells + 1 + N ≤ R.cells) (hrs : slots + N + N * M ≤ R.slots)
    (hI : mlI p l e R s m args below meth c locs cells slots vm1 c1 c2 N M z H i U)
    (kk : ∀ (U' : State) (d' : Bool) (acts' : List Jvm.Action), mlI p l e R s m args below meth c locs cells slots vm1 c1 c2 N M z H (i + 1) U' → Q' (ForInStep.yield PUnit.unit) d' acts' (U'.setTop f)) :
    Jvm.Sem.wp (Jvm.Op.multianewarray.make c1 [n] >>= fun r => Jvm.writeLoc z i (.ref r) >>= fun _ => Pure.pure (ForInStep.yield PUnit.unit)) Q' E e d acts (U.setTop f) := by
  obtain ⟨hvm, X, hsz, hz, hlo, hin⟩ := hI
  have hmul : (i + 1) * M ≤ N * M := Nat.mul_le_mul_right M hi
  have hmul2 : (i + 1) * M = i * M + M := Nat.succ_mul i M
  obtain ⟨hr1, hr2⟩ := X.roomAbove (a := 1) (b := M) (by omega) (by omega)
  rw [Jvm.Sem.wp_bind']
  refine (sw_make1 (k := k1) (comp := comp1) (type := .long) (by show U.vm.classes[c1]? = _; rw [hvm]; exact hk1) hkind1 rfl rfl hn (by rw [Jvm.Launch.admits_arrayLengthLimit X.admits, hM]; omega) (by rw [Jvm.Launch.admits_maxHeapBytes X.admits, hM]; show ¬ M * 8 > 536870912; omega)).mpr ⟨?_, ?_, ?_⟩
  · show U.heap.size < _; omega
  · show U.slotsUsed + _ ≤ _; rw [hM]; exact hr2
  rw [hM]
  have X1 := X.pushed { cls := c1, slots := Array.replicate M (defaultValue .long), vm := .none }
  have hz1 : (U.pushCell { cls := c1, slots := Array.replicate M (defaultValue .long), vm := .none }).heap[z]? = some (mlO c2 N z i) := by
    show (U.heap.push _)[z]? = _
    rw [Array.getElem?_push, if_neg (by omega)]; exact hz
  have X2 := X1.stored hz1 i (.ref U.heap.size)
  rw [Jvm.Sem.wp_bind', Jvm.W.writeLoc]
  refine ⟨_, hz1, fun h => (by cases h), ?_, ?_, ?_⟩
  · show i < (mlO c2 N z i).slots.size
    unfold mlO; rw [arrV_size]; exact hi
  · show State.fitsSlot (U.pushCell { cls := c1, slots := Array.replicate M (defaultValue .long), vm := .none }) c2 .none i (.ref U.heap.size) = true
    have hk3 : U.vm.classes[c2]? = some k2 := by rw [hvm]; exact hk2
    simp [State.fitsSlot, State.slotType?, hk3, hkind2, fits]
  rw [Jvm.Sem.wp_pure']
  refine kk ((U.pushCell { cls := c1, slots := Array.replicate M (defaultValue .long), vm := .none }).setCell z ((mlO c2 N z i).setSlot i (.ref U.heap.size))) _ _ ⟨hvm, ?_, ?_, ?_, ?_, ?_⟩
  · have e1 : locs ++ (List.range (i + 1)).map (fun j => (⟨z, j⟩ : Loc)) = locs ++ (List.range i).map (fun j => (⟨z, j⟩ : Loc)) ++ [⟨z, i⟩] := by
      rw [List.range_succ, List.map_append, List.append_assoc]; rfl
    have e2 : slots + N + i * M + (Array.replicate M (defaultValue .long)).size = slots + N + (i + 1) * M := by rw [Array.size_replicate]; omega
    rw [e1]
    have X3 := X2
    simp only [e2] at X3
    exact X3
  · rw [size_setCell]; show (U.heap.push _).size = _; rw [Array.size_push]; omega
  · have hlt : z < (U.pushCell { cls := c1, slots := Array.replicate M (defaultValue .long), vm := .none }).heap.size := by
      show z < (U.heap.push _).size; rw [Array.size_push]; omega
    rw [Jvm.heapAt_setCell_self _ hlt, hsz, mlO_step]
  · intro q hq
    rw [Jvm.heapAt_setCell_ne _ (show z ≠ q by omega)]
    show (U.heap.push _)[q]? = _
    rw [Array.getElem?_push, if_neg (by omega)]; exact hlo q hq
  · intro j hj
    rw [Jvm.heapAt_setCell_ne _ (show z ≠ z + 1 + j by omega)]
    show (U.heap.push _)[z + 1 + j]? = _
    rw [Array.getElem?_push]
    by_cases hji : j = i
    · subst hji
      rw [if_pos (by omega), arrV_new]
      rfl
    · rw [if_neg (by omega)]; exact hin j (by omega)
theorem sw_make2 {E : Jvm.CtlPost} {p : Program} {l : Launch} {e : Env} {R : Room} {s : State} {m : MethodId} {args : Array Value} {below : List Frame} {meth : Method} {c : Code} {locs : List Loc} {cells slots : Nat} {c1 c2 comp1 : ClassId} {k1 k2 : Class} {N M : Nat} {U : State} {n1 n2 : Int32} {f : JFrame} {d : Bool} {acts : List Jvm.Action} {Q' : Addr → Jvm.Pre}
    (hk1 : U.vm.classes[c1]? = some k1) (hkind1 : k1.kind = .array comp1 .long) (hk2 : U.vm.classes[c2]? = some k2) (hkind2 : k2.kind = .array c1 (.array .long)) (hn1 : ¬ n1 < 0) (hn0 : (n1 == 0) = false) (hN : n1.toNatClampNeg = N) (hN2 : N ≤ 65536) (hn2 : ¬ n2 < 0) (hM : n2.toNatClampNeg = M) (hM2 : M ≤ 65536) (hrc : cells + 1 + N ≤ R.cells) (hrs : slots + N + N * M ≤ R.slots)
    (X : Jvm.Stand p l e R s m args below meth c U locs cells slots)
    (kk : ∀ (U' : State) (d' : Bool) (acts' : List Jvm.Action), mlI p l e R s m args below meth c locs cells slots U.vm c1 c2 N M U.heap.size U.heap N U' → Q' U.heap.size d' acts' (U'.setTop f)) :
    Jvm.Sem.wp (Jvm.Op.multianewarray.make c2 [n1, n2]) Q' E e d acts (U.setTop f) := by
  obtain ⟨hr1, hr2⟩ := X.roomAbove (a := 1) (b := N) (by omega) (by omega)
  rw [Jvm.Op.multianewarray.make]
  simp only [Jvm.Sem.wp_bind', Jvm.W.ite, hn1, if_false, Jvm.Sem.wp_pure', Jvm.W.theClass, State.vm_setTop, hk2, Option.some.injEq, exists_eq_left', hkind2]
  refine (sw_newArr (s := U.setTop f) (n := n1.toNatClampNeg) (v := .null) (k := k2) (comp := c1) (type := .array .long) hk2 hkind2 rfl rfl (by rw [Jvm.Launch.admits_arrayLengthLimit X.admits, hN]; omega) (by rw [Jvm.Launch.admits_maxHeapBytes X.admits, hN]; show ¬ N * 4 > 536870912; omega)).mpr ⟨?_, ?_, ?_⟩
  · show U.heap.size < _; omega
  · show U.slotsUsed + _ ≤ _; rw [hN]; exact hr2
  simp only [Jvm.Sem.wp_bind', Jvm.W.ite, hn0, Bool.false_eq_true, if_false, Jvm.Sem.wp_pure', Std.Legacy.Range.forIn_eq_forIn_range', Std.Legacy.Range.size]
  rw [hN]
  have hsz : (N - 0 + 1 - 1) / 1 = N := by simp
  rw [hsz]
  refine wp_forIn_inv (fun (rest : List Nat) (S : State) => ∃ (i : Nat) (U' : State), i ≤ N ∧ rest = List.range' i (N - i) ∧ S = U'.setTop f ∧ mlI p l e R s m args below meth c locs cells slots U.vm c1 c2 N M U.heap.size U.heap i U') _ _ ?_ ?_ ?_
  · refine ⟨0, U.pushCell { cls := c2, slots := Array.replicate N .null, vm := .none }, Nat.zero_le _, rfl, rfl, rfl, ?_, ?_, ?_, ?_, ?_⟩
    · have X1 := X.pushed { cls := c2, slots := Array.replicate N .null, vm := .none }
      have e2 : slots + (Array.replicate N Value.null).size = slots + N + 0 * M := by rw [Array.size_replicate]; omega
      simp only [e2] at X1
      rw [show locs ++ (List.range 0).map (fun j => (⟨U.heap.size, j⟩ : Loc)) = locs from List.append_nil _]
      exact X1
    · show (U.heap.push _).size = _; rw [Array.size_push]
    · show (U.heap.push _)[U.heap.size]? = _
      rw [Array.getElem?_push_size, arrV_new]
      rfl
    · intro q hq
      show (U.heap.push _)[q]? = _
      rw [Array.getElem?_push, if_neg (by omega)]
    · intro j hj; omega
  · rintro x rest S d1 acts1 Q1 ⟨i, U1, hi, hrest, rfl, hI⟩ hq1
    have hpos : 0 < N - i := by
      rcases Nat.eq_zero_or_pos (N - i) with z | z
      · rw [z] at hrest; cases hrest
      · exact z
    obtain ⟨w, hw⟩ : ∃ w, N - i = w + 1 := ⟨N - i - 1, by omega⟩
    rw [hw, List.range'_succ] at hrest
    injection hrest with hx hrest2
    subst hx
    refine mlI_step hk1 hkind1 hk2 hkind2 hn2 hM hM2 (by omega) hrc hrs hI ?_
    intro U2 d2 acts2 hI2
    exact hq1 _ _ _ ⟨x + 1, U2, by omega, by rw [hrest2]; congr 1; omega, rfl, hI2⟩
  · rintro S d1 acts1 ⟨i, U1, hi, hrest, rfl, hI⟩
    have hpos : N - i = 0 := by
      rcases Nat.eq_zero_or_pos (N - i) with z | z
      · exact z
      · obtain ⟨w, hw⟩ : ∃ w, N - i = w + 1 := ⟨N - i - 1, by omega⟩
        rw [hw, List.range'_succ] at hrest; cases hrest
    have e3 : i = N := by omega
    subst e3
    exact kk _ _ _ hI
theorem W_multi {p : Program} {l : Launch} {e : Env} {R : Room} {s : State} {m : MethodId} {args : Array Value} {below : List Frame} {meth : Method} {c : Code} {H : Heap} {locs : List Loc} {cells slots : Nat} {Q : State → Prop} {cc : ByteArray} (hexec : p.tables.exec = Jvm.exec) (hb : c.code = cc) {own Cn : String} {index : Nat} (hown : s.vm.findClass own = some m.cls) (hclink : (Cond.classLink own index Cn).before args s = true)
    {c1 c2 comp1 : ClassId} {k1 k2 : Class} {N M : Nat} {n1 n2 : Int32} {rest : List Value} (hfc : s.vm.findClass Cn = some c2) (hk1 : s.vm.classes[c1]? = some k1) (hkind1 : k1.kind = .array comp1 .long) (hk2 : s.vm.classes[c2]? = some k2) (hkind2 : k2.kind = .array c1 (.array .long)) (hn1 : ¬ n1 < 0) (hn0 : (n1 == 0) = false) (hN : n1.toNatClampNeg = N) (hN2 : N ≤ 65536) (hn2 : ¬ n2 < 0) (hM : n2.toNatClampNeg = M) (hM2 : M ≤ 65536) (hrc : cells + 1 + N ≤ R.cells) (hrs : slots + N + N * M ≤ R.slots)
    {g : JFrame} (hg : g.method = m) (hdg : decode cc g.pc = .ok (.multianewarray index 2, 4)) (hstack : g.stack = .int n2 :: .int n1 :: rest)
    (kk : ∀ H' : Heap, H'.size = H.size + 1 + N → H'[H.size]? = some (mlO c2 N H.size N) → (∀ q : Nat, q < H.size → H'[q]? = H[q]?) → (∀ j : Nat, j < N → H'[H.size + 1 + j]? = some (arrV c1 M (fun _ => .long 0))) → W p l e R s m args below meth c H' (locs ++ (List.range N).map (fun j => (⟨H.size, j⟩ : Loc))) (cells + 1 + N) (slots + N + N * M) Q { g with pc := g.pc + 4, stack := .ref H.size :: rest }) : W p l e R s m args below meth c H locs cells slots Q g := by
  intro T hT X
  subst hT; subst hb; subst hg
  have hpl : e.platform.magicAccessors = ({} : Platform).magicAccessors := by rw [X.admits.platform]
  obtain ⟨cc', hfcc, hcl⟩ := Cond.classLink_spec hown hclink e.platform hpl
  cases hfc.symm.trans hfcc
  obtain ⟨hg₁, hwarm₁, hready₁⟩ := State.classEntry (e := e) X.warmed hcl
  generalize T.vm.noted g.method.cls index (.cls c2) = vm₁ at hg₁ hwarm₁ hready₁
  have hal : s.vm.Alike vm₁ := hwarm₁.alike
  obtain ⟨k1', hk1', he1⟩ := hal.2.2 _ _ hk1
  obtain ⟨k2', hk2', he2⟩ := hal.2.2 _ _ hk2
  have hkind1' : k1'.kind = .array comp1 .long := by rw [he1]; exact hkind1
  have hkind2' : k2'.kind = .array c1 (.array .long) := by rw [he2]; exact hkind2
  have X1 := X.noted hwarm₁
  have hw : Jvm.Sem.wpRun (Jvm.Op.multianewarray.sem index 2) (fun _ S _ => ∃ U' : State, S = U'.setTop { g with stack := .ref T.heap.size :: rest } ∧ mlI p l e R s g.method args below meth c locs cells slots vm₁ c1 c2 N M T.heap.size T.heap N U') (fun _ _ _ => False) e (T.setTop g) := by
    unfold Jvm.Sem.wpRun
    simp only [Jvm.Op.multianewarray.sem, Jvm.Sem.wp_bind']
    refine (Jvm.W.resolveClassAt_transfer (s := T.setTop g) (State.method?_setTop g X.here.top) hg₁ hready₁).mpr ?_
    refine (Jvm.W.resolveClassAt_ready (s := (T.setTop g).setVm vm₁) (State.method?_setTop (s := T.setVm vm₁) g X.here.top) hready₁).mpr ?_
    simp only [Jvm.Sem.wp_bind']
    refine (Jvm.Op.popN_top (s := T.setVm vm₁) (f := g) (args := [.int n1, .int n2]) (rest := rest) X.here.top hstack).mpr ?_
    simp only [List.mapM_cons, List.mapM_nil, Jvm.Sem.wp_bind', Jvm.Sem.wp_pure']
    refine sw_make2 hk1' hkind1' hk2' hkind2' hn1 hn0 hN hN2 hn2 hM hM2 hrc hrs X1 ?_
    intro U' d' acts' hI
    have htop : U'.topJava?.isSome := hI.2.1.here.top
    simp only [Jvm.Sem.wp_bind', Jvm.W.mark, Jvm.W.pushRef, State.topJava?_setTop' _ htop, Option.some.injEq, exists_eq_left', State.setTop_setTop]
    exact ⟨U', rfl, hI⟩
  have hr := (Jvm.Sem.wpRun_iff_run _ _ _ _ _).mp hw
  cases hrun : (Jvm.Op.multianewarray.sem index 2).run e (T.setTop g) with
  | ok v S acts =>
    rw [hrun] at hr
    obtain ⟨U', rfl, -, X2, hsz, hz, hlo, hin⟩ := hr
    obtain ⟨t, a1, b1⟩ := kk U'.heap hsz hz hlo hin U' rfl X2
    refine ⟨t, ?_, b1⟩
    refine Steps.instr (c := c) X.here ?_
    rw [hdg]
    show Jvm.Sem.wpRun (p.tables.exec (.multianewarray index 2)) _ _ e (T.setTop g)
    rw [hexec]
    show Jvm.Sem.wpRun (Jvm.Op.multianewarray.sem index 2) _ _ e (T.setTop g)
    rw [Jvm.Sem.wpRun_iff_run, hrun]
    show ∀ acts, Steps p.tables e below (afterInstr e 4 (.ok () (U'.setTop _) acts)).1 t
    intro acts'
    rw [afterInstr_ok]
    exact a1
  | ctl x S acts =>
    rw [hrun] at hr
    cases x <;> exact hr.elim
/-- the heap behind it: the outer row at a, its rows behind it -/
def mlH (h : Hp) (a N M : Nat) : Hp := fun q => if q = a then some (aR 6 N (fun j => if j < N then some (a + 1 + j) else none)) else if a < q ∧ q < a + 1 + N then some (aJ M (fun _ => 0)) else h q
theorem wR_above {G : WG} {h : Hp} {H : Heap} (hR : wR G h H) {q : Nat} (hq : H.size ≤ q) : h q = none := by
  cases hc : h q with
  | none => rfl
  | some e => exact absurd (hR.lt hc) (by omega)
section WPM
variable {l : Launch} {G : WG} {μ : MI} {Z : WZ} {pc : Nat} {lv : List (Option Value)} {st : List Value} {h : Hp}
theorem wp_multi {idx N M : Nat} {n1 n2 : Int32} {rc rs : Nat} (hd : decode (mC μ) pc = .ok (.multianewarray idx 2, 4)) (hw : Cond.classLink (mY μ).cls idx "[[J" ∈ lw_tbl) (e1 : n1 = nI N) (hN0 : 0 < N) (hN : N ≤ 65536) (e2 : n2 = nI M) (hM : M ≤ 65536)
    (kk : ∀ a : Nat, (∀ q, a ≤ q → h q = none) → (gH G).size ≤ a → wp l G μ Z (pc + 4) lv (.ref a :: st) (mlH h a N M) rc rs) : wp l G μ Z pc lv (.int n2 :: .int n1 :: st) h (rc + (1 + N)) (rs + (N + N * M)) := by
  intro p e s m args below meth c C H locs cells slots ls hR hlo hcc hs hl hn
  have hts := C.2.2.2.2.2.1
  have hK := C.2.2.2.2.2.2.1.1
  obtain ⟨k2, hk2, hkind2⟩ := C.2.2.2.2.2.2.1.2.2.2.2.2.2.2.2.2
  obtain ⟨-, k1, hk1, comp1, hkind1⟩ := (hK.2 1 (gY G 1, .long) rfl).1 0 (fun _ => .long 0)
  have hfc : s.vm.findClass "[[J" = some (gY G 6) := by
    have h9 : s.vm.findClass ("[" ++ (FieldType.array .long).toString) = some (gY G 6) := (hK.2 6 (gY G 6, .array .long) rfl).2
    rw [show ("[" ++ (FieldType.array .long).toString) = "[[J" by decide +kernel] at h9
    exact h9
  have c1 : n1.toNatClampNeg = N := by rw [e1]; exact nI_clamp (by omega)
  have c2 : n2.toNatClampNeg = M := by rw [e2]; exact nI_clamp (by omega)
  have hz : (n1 == 0) = false := by
    rw [beq_eq_false_iff_ne]
    intro z
    rw [z] at c1
    have : (0 : Int32).toNatClampNeg = 0 := by decide
    omega
  refine W_multi (N := N) (M := M) C.1 C.2.1 C.2.2.2.2.1 (hts _ (wt_mem hw rfl)) hfc hk1 hkind1 hk2 hkind2 (by rw [e1]; exact nI_pos (by omega)) hz c1 hN (by rw [e2]; exact nI_pos (by omega)) c2 hM (by omega) (by omega) rfl hd rfl fun H1 z1 f1 o1 r1 => ?_
  refine kk H.size (fun q hq => wR_above hR hq) hR.1 p e s m args below meth c C H1 _ _ _ ls ?_ ?_ (by omega) (by omega) hl hn
  · refine ⟨by rw [z1]; exact Nat.le_trans hR.1 (by omega), fun q hq => ?_, fun b e9 hb => ?_⟩
    · rw [o1 q (Nat.lt_of_lt_of_le hq hR.1)]; exact hR.2.1 q hq
    · unfold mlH at hb
      by_cases z : b = H.size
      · rw [if_pos z] at hb
        cases hb
        subst z
        refine Or.inl ⟨?_, hR.1⟩
        show H1[H.size]? = some (vp_cell _ _)
        rw [vp_cell_q]
        exact f1
      · rw [if_neg z] at hb
        by_cases y : H.size < b ∧ b < H.size + 1 + N
        · rw [if_pos y] at hb
          cases hb
          refine Or.inl ⟨?_, Nat.le_trans hR.1 (by omega)⟩
          show H1[b]? = some (vp_cell _ _)
          rw [vp_cell_l]
          have := r1 (b - (H.size + 1)) (by omega)
          rw [show H.size + 1 + (b - (H.size + 1)) = b by omega] at this
          exact this
        · rw [if_neg y] at hb
          have hqb := o1 b (hR.lt hb)
          rcases hR.2.2 b e9 hb with z1 | ⟨z1, cell, y1, y2⟩
          · exact Or.inl ⟨va_at.kept z1.1 hqb, z1.2⟩
          · exact Or.inr ⟨z1, cell, by rw [hqb]; exact y1, y2⟩
  · intro q hq
    rcases List.mem_append.mp hq with z9 | z9
    · exact hlo q z9
    · obtain ⟨j, -, rfl⟩ := List.mem_map.mp z9
      exact hR.1
end WPM
