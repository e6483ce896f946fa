/-! ===== an array of arrays: the machine's words ===== -/
theorem sw_newArr {E : Jvm.CtlPost} {e : Jvm.Env} {d : Bool} {acts : List Jvm.Action} {s : State} {c comp : ClassId} {k : Class} {type : FieldType} {n : Nat} {v : Value} {Q : Addr → Jvm.Pre} (hk : s.vm.classes[c]? = some k) (hkind : k.kind = .array comp type) (hfits : Jvm.fits type v = true) (hdv : v.isDefault = true) (hlimit : ¬ n > e.platform.arrayLengthLimit) (hheap : ¬ n * componentBytes type > e.platform.maxHeapBytes) :
    Jvm.Sem.wp (Jvm.newArray c n v) Q E e d acts s ↔ s.heap.size < e.platform.maxCells ∧ s.slotsUsed + n ≤ e.platform.maxSlots ∧ Q s.heap.size d acts (s.pushCell { cls := c, slots := Array.replicate n v, vm := .none }) := by
  have hfit : ∀ i x, (Array.replicate n v)[i]? = some x → s.fitsSlot c .none i x = true := by
    intro i x hv
    simp only [Array.getElem?_replicate] at hv
    split at hv
    · cases hv; simp [State.fitsSlot, State.slotType?, hk, hkind, hfits]
    · cases hv
  have hdef : Jvm.allocActs (Array.replicate n v) s.heap.size acts = acts := by
    have hall : ((Array.replicate n v).all (·.isDefault)) = true := by
      rw [Array.all_replicate]; split <;> simp [hdv]
    unfold Jvm.allocActs; rw [if_pos hall]
  simp only [Jvm.newArray, Jvm.arrayFits, Jvm.Sem.wp_bind', Jvm.W.ask, hlimit, Jvm.W.theClass, hk, hkind, hheap, Jvm.W.alloc, Jvm.W.ite, if_false, Jvm.Sem.wp_pure', Option.some.injEq, exists_eq_left', Array.size_replicate, hdef, Jvm.W.stop]
  constructor
  · intro h
    split at h
    · exact h.elim
    · exact ⟨h.1, h.2.1, h.2.2.2⟩
  · rintro ⟨h1, h2, h4⟩
    rw [if_neg (by omega)]
    exact ⟨h1, h2, hfit, h4⟩
theorem sw_make1 {E : Jvm.CtlPost} {e : Jvm.Env} {d : Bool} {acts : List Jvm.Action} {s : State} {c comp : ClassId} {k : Class} {type : FieldType} {n : Int32} {Q : Addr → Jvm.Pre} (hk : s.vm.classes[c]? = some k) (hkind : k.kind = .array comp type) (hfits : Jvm.fits type (defaultValue type) = true) (hdv : (defaultValue type).isDefault = true) (hn : ¬ n < 0) (hlimit : ¬ n.toNatClampNeg > e.platform.arrayLengthLimit) (hheap : ¬ n.toNatClampNeg * componentBytes type > e.platform.maxHeapBytes) :
    Jvm.Sem.wp (Jvm.Op.multianewarray.make c [n]) Q E e d acts s ↔ s.heap.size < e.platform.maxCells ∧ s.slotsUsed + n.toNatClampNeg ≤ e.platform.maxSlots ∧ Q s.heap.size d acts (s.pushCell { cls := c, slots := Array.replicate n.toNatClampNeg (defaultValue type), vm := .none }) := by
  rw [← sw_newArr (E := E) hk hkind hfits hdv hlimit hheap]
  simp only [Jvm.Op.multianewarray.make, Jvm.Sem.wp_bind', Jvm.W.ite, hn, if_false, Jvm.Sem.wp_pure', Jvm.W.theClass, hk, Option.some.injEq, exists_eq_left', hkind]
