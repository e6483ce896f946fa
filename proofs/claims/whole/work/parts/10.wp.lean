/-! ===== THE WALK'S JUDGEMENT: cells by address, locals by place, over the kit's W ===== -/
/-- the words of the tables that every call may take along -/
def wt : List Cond := lw_tbl.filter goodWord
theorem wt_mem {w : Cond} (h : w ∈ lw_tbl) (g : goodWord w = true) : w ∈ wt := List.mem_filter.mpr ⟨h, g⟩
theorem wt_tbl {w : Cond} (h : w ∈ wt) : w ∈ lw_tbl := (List.mem_filter.mp h).1
theorem wt_good : GoodIn wt wt := fun w h => ⟨h, good_of_word (List.mem_filter.mp h).2⟩
/-- what an array's kind holds -/
def w_ty : Nat → FieldType
  | 0 => .int
  | 1 => .long
  | 2 => .boolean
  | 3 => .object "java/lang/Object"
  | 4 => .object "LeaseBoard$Memory"
  | 5 => .object "LeaseBoard$Tray"
  | _ => .array .long
/-- a cell: an array of a kind, or an object of a class of vwCl -/
abbrev EC : Type := (Nat × vp_A) ⊕ (Nat × List Value)
abbrev Hp : Type := Nat → Option EC
/-- the world's fixed part: classes and slots, the arrays' classes, the heap at the law's start, ArrayList's empty array, Object[]'s mirror, the script -/
abbrev WG : Type := va_G × (Nat → ClassId) × Heap × Nat × Nat × Nat × Nat × (Nat → Int32)
abbrev gD (G : WG) : va_G := G.1
abbrev gY (G : WG) : Nat → ClassId := G.2.1
abbrev gH (G : WG) : Heap := G.2.2.1
abbrev gE (G : WG) : Nat := G.2.2.2.1
abbrev gM (G : WG) : Nat := G.2.2.2.2.1
abbrev gB (G : WG) : Nat := G.2.2.2.2.2.1
abbrev gL (G : WG) : Nat := G.2.2.2.2.2.2.1
abbrev gX (G : WG) : Nat → Int32 := G.2.2.2.2.2.2.2
def toE (G : WG) : EC → va_E
  | .inl q => .inl (gY G q.1, q.2)
  | .inr o => .inr o
def e_nil : EC := .inl (3, 0, .inr (.inr (.inr (.inr (fun _ => none)))))
def w_tys (G : WG) : List (ClassId × FieldType) := [(gY G 0, .int), (gY G 1, .long), (gY G 2, .boolean), (gY G 3, .object "java/lang/Object"), (gY G 4, .object "LeaseBoard$Memory"), (gY G 5, .object "LeaseBoard$Tray"), (gY G 6, .array .long)]
def w_nocast : List (String × String) := [("LeaseBoard$Only", "LeaseBoard$Waiting"), ("LeaseBoard$Shared", "LeaseBoard$Waiting"), ("LeaseBoard$Counted", "LeaseBoard$Waiting"), ("LeaseBoard$Rising", "LeaseBoard$Waiting"), ("LeaseBoard$Only", "LeaseBoard$Rising"), ("LeaseBoard$Shared", "LeaseBoard$Rising"), ("LeaseBoard$Counted", "LeaseBoard$Rising"), ("LeaseBoard$Waiting", "LeaseBoard$Rising"), ("LeaseBoard$Only", "LeaseBoard$Counted"), ("LeaseBoard$Shared", "LeaseBoard$Counted"), ("LeaseBoard$Rising", "LeaseBoard$Counted"), ("LeaseBoard$Waiting", "LeaseBoard$Counted"), ("LeaseBoard$Only", "LeaseBoard$Shared"), ("LeaseBoard$Rising", "LeaseBoard$Shared"), ("LeaseBoard$Waiting", "LeaseBoard$Shared")]
/-- words that hold in every later state too, though not by the tables' own rule -/
def wn : List Cond := lw_tbl.filter (fun w => match w with | .castable .. => true | .methodLinkNest .. => true | .declares .. => true | _ => false)
/-- the class of long[][] -/
def wAOA (G : WG) (U : State) : Prop := ∃ k : Class, U.vm.classes[gY G 6]? = some k ∧ k.kind = .array (gY G 1) (.array .long)
theorem wAOA.moved {G : WG} {u U : State} (hvm : u.vm.Alike U.vm) (h : wAOA G u) : wAOA G U := by
  obtain ⟨k, h3, h4⟩ := h
  obtain ⟨k', hk', he⟩ := hvm.2.2 _ _ h3
  exact ⟨k', hk', by rw [he]; exact h4⟩
/-- what the tables say, in a state of the run -/
def wK (G : WG) (U : State) : Prop :=
  va_K (gD G) vwCl (w_tys G) U ∧ va_X (gB G) (gL G) (gX G) U (gH G) ∧
  va_Z "java/util/ArrayList" "DEFAULTCAPACITY_EMPTY_ELEMENTDATA" "[Ljava/lang/Object;" (.ref (gE G)) (fun q => (gH G).size ≤ q) U (gH G) ∧
  va_Mi "[Ljava/lang/Object;" (gM G) U ∧ (∀ q ∈ w_nocast, va_Nc q.1 q.2 U) ∧ (∀ w ∈ wn, va_Nw w U) ∧ va_AO "java/lang/Object" U ∧ va_AO "LeaseBoard$Memory" U ∧ va_AO "LeaseBoard$Tray" U ∧ wAOA G U
theorem wK.warm {G : WG} {s U : State} (hW : s.WarmedH U.vm) (h : wK G s) : wK G U := by
  obtain ⟨h1, h2, h3, h4, h5, h6, h7, h8, h9, h10⟩ := h
  refine ⟨va_K.moved hW.alike h1, va_X.moved hW.alike h2, va_Z.moved hW.alike h3, va_Mi.moved hW.alike h4, fun q hq => (h5 q hq).moved hW.alike, fun w hw => ?_, h7.moved hW.alike, h8.moved hW.alike, h9.moved hW.alike, h10.moved hW.alike⟩
  have hz := h6 w hw
  have hf := (List.mem_filter.mp hw).2
  cases w <;> first | (simp at hf; done) | exact va_Nw.warmC hW hz | exact va_Nw.warmM hW hz | exact va_Nw.warmD hW hz
/-- an array of the class cA with no places; what else its cell bears nobody asks -/
def nilAt (cA : ClassId) (a : Nat) (H : Heap) : Prop := ∃ cell : Cell, H[a]? = some cell ∧ cell.cls = cA ∧ cell.slots.size = 0 ∧ ∀ x, cell.vm ≠ .statics x
/-- the machine's heap holds the cells h; what was there before the law is as it was (of that only ArrayList's empty array is looked at) -/
def wR (G : WG) (h : Hp) (H : Heap) : Prop :=
  (gH G).size ≤ H.size ∧ (∀ q : Nat, q < (gH G).size → H[q]? = (gH G)[q]?) ∧ ∀ (a : Nat) (e : EC), h a = some e → (va_at (gD G) vwCl (a, toE G e) H ∧ (gH G).size ≤ a) ∨ (e = e_nil ∧ nilAt (gY G 3) a H)
theorem wR.at {G : WG} {h : Hp} {H : Heap} (hR : wR G h H) {a : Nat} {e : EC} (ha : h a = some e) (hne : e ≠ e_nil) : va_at (gD G) vwCl (a, toE G e) H ∧ (gH G).size ≤ a := (hR.2.2 a e ha).resolve_right (fun z => hne z.1)
theorem ne_nilO (o : Nat × List Value) : (.inr o : EC) ≠ e_nil := fun z => by cases z
theorem ne_nil {k n : Nat} {r : (Nat → Int32) ⊕ (Nat → Int64) ⊕ (Nat → UInt32) ⊕ (Nat → UInt64) ⊕ (Nat → Option Nat)} (hn : k ≠ 3 ∨ 0 < n) : (.inl (k, n, r) : EC) ≠ e_nil := by
  intro z
  unfold e_nil at z
  simp only [Sum.inl.injEq, Prod.mk.injEq] at z
  omega
def up (h : Hp) (a : Nat) (e : EC) : Hp := fun q => if q = a then some e else h q
theorem up_s (h : Hp) (a : Nat) (e : EC) : up h a e a = some e := by simp [up]
theorem up_n {h : Hp} {a b : Nat} (e : EC) (hb : b ≠ a) : up h a e b = h b := by simp [up, hb]
theorem wR.lt {G : WG} {h : Hp} {H : Heap} (hR : wR G h H) {a : Nat} {e : EC} (ha : h a = some e) : a < H.size := by
  rcases hR.2.2 a e ha with z | ⟨-, cell, z, -⟩
  · exact va_at.lt z.1
  · exact (Array.getElem?_eq_some_iff.mp z).1
theorem wR.set {G : WG} {h : Hp} {H H1 : Heap} (hR : wR G h H) {a : Nat} {e : EC} (hz : H1.size = H.size) (hq : ∀ q : Nat, q ≠ a → H1[q]? = H[q]?) (hb : (gH G).size ≤ a) (he : va_at (gD G) vwCl (a, toE G e) H1) : wR G (up h a e) H1 := by
  refine ⟨by rw [hz]; exact hR.1, fun q h1 => ?_, fun b e1 hb1 => ?_⟩
  · rw [hq q (fun h => by omega)]; exact hR.2.1 q h1
  · by_cases hba : b = a
    · subst hba
      rw [up_s] at hb1
      cases hb1
      exact Or.inl ⟨he, hb⟩
    · rw [up_n _ hba] at hb1
      rcases hR.2.2 b e1 hb1 with z | ⟨z, cell, y1, y2⟩
      · exact Or.inl ⟨va_at.kept z.1 (hq b hba), z.2⟩
      · exact Or.inr ⟨z, cell, by rw [hq b hba]; exact y1, y2⟩
theorem wR.new {G : WG} {h : Hp} {H H1 : Heap} (hR : wR G h H) {e : EC} (hz : H1.size = H.size + 1) (hq : ∀ q : Nat, q < H.size → H1[q]? = H[q]?) (he : va_at (gD G) vwCl (H.size, toE G e) H1) : wR G (up h H.size e) H1 := by
  refine ⟨by rw [hz]; exact Nat.le_succ_of_le hR.1, fun q h1 => ?_, fun b e1 hb1 => ?_⟩
  · rw [hq q (Nat.lt_of_lt_of_le h1 hR.1)]; exact hR.2.1 q h1
  · by_cases hba : b = H.size
    · subst hba
      rw [up_s] at hb1
      cases hb1
      exact Or.inl ⟨he, hR.1⟩
    · rw [up_n _ hba] at hb1
      have hqb := hq b (hR.lt hb1)
      rcases hR.2.2 b e1 hb1 with z | ⟨z, cell, y1, y2⟩
      · exact Or.inl ⟨va_at.kept z.1 hqb, z.2⟩
      · exact Or.inr ⟨z, cell, by rw [hqb]; exact y1, y2⟩
theorem wR.fresh {G : WG} {h : Hp} {H : Heap} (hR : wR G h H) : h H.size = none := by
  cases hc : h H.size with
  | none => rfl
  | some e => exact absurd (hR.lt hc) (Nat.lt_irrefl _)
/-- a method: its name, code, locals, answer, room -/
abbrev MI : Type := MethodName × ByteArray × Nat × Option FieldType × Room
abbrev mY (μ : MI) : MethodName := μ.1
abbrev mC (μ : MI) : ByteArray := μ.2.1
abbrev mL (μ : MI) : Nat := μ.2.2.1
abbrev mT (μ : MI) : Option FieldType := μ.2.2.2.1
abbrev mR (μ : MI) : Room := μ.2.2.2.2
/-- the locals, by place -/
def lvOK (ls : Array Slot) (lv : List (Option Value)) : Prop := ls.size = lv.length ∧ lv_wf ls ∧ ∀ (i : Nat) (v : Value), lv[i]? = some (some v) → ls[i]? = some (.val v)
def lvp (lv : List (Option Value)) : List (Nat × Value) := (List.range lv.length).filterMap fun i => match lv[i]? with | some (some v) => some (i, v) | _ => none
theorem lvp_mem {lv : List (Option Value)} {q : Nat × Value} : q ∈ lvp lv ↔ lv[q.1]? = some (some q.2) := by
  obtain ⟨i, v⟩ := q
  unfold lvp
  rw [List.mem_filterMap]
  constructor
  · rintro ⟨j, hj, h⟩
    split at h
    · rename_i w hw
      simp only [Option.some.injEq, Prod.mk.injEq] at h
      obtain ⟨rfl, rfl⟩ := h
      exact hw
    · cases h
  · intro h
    have hl : i < lv.length := (List.getElem?_eq_some_iff.mp h).1
    exact ⟨i, List.mem_range.mpr hl, by simp [h]⟩
theorem lvOK.has {ls : Array Slot} {lv : List (Option Value)} (h : lvOK ls lv) : lv_has ls lv.length (lvp lv) := ⟨h.1, h.2.1, fun q hq => h.2.2 q.1 q.2 (lvp_mem.mp hq)⟩
def cat2 : Option Value → Bool
  | some (.long _) => true
  | some (.double _) => true
  | _ => false
/-- a store: a wide value takes the place behind it too; a wide value ahead of it is gone -/
def lset : List (Option Value) → Nat → Value → List (Option Value)
  | [], _, _ => []
  | _ :: r, 0, v => some v :: r
  | a :: r, 1, v => (if cat2 a then none else a) :: lset r 0 v
  | a :: r, k + 2, v => a :: lset r (k + 1) v
def lsetW : List (Option Value) → Nat → Value → List (Option Value)
  | [], _, _ => []
  | _ :: _ :: r, 0, v => some v :: none :: r
  | a :: r, 0, _ => a :: r
  | a :: r, 1, v => (if cat2 a then none else a) :: lsetW r 0 v
  | a :: r, k + 2, v => a :: lsetW r (k + 1) v
/-- no wide value ahead of the place -/
def lv9 : List (Option Value) → Nat → Bool
  | [], _ => true
  | _ :: _, 0 => true
  | a :: _, 1 => !cat2 a
  | _ :: r, k + 2 => lv9 r (k + 1)
theorem lset_eq : ∀ (lv : List (Option Value)) (i : Nat) (v : Value), lv9 lv i = true → lset lv i v = lv.set i (some v)
  | [], _, _, _ => by simp [lset]
  | a :: r, 0, v, _ => by simp [lset]
  | a :: r, 1, v, h => by
    simp only [lv9, Bool.not_eq_true'] at h
    simp only [lset, h, Bool.false_eq_true, if_false, List.set_cons_succ]
    rw [lset_eq r 0 v (by cases r <;> rfl)]
  | a :: r, k + 2, v, h => by
    simp only [lset, List.set_cons_succ]
    rw [lset_eq r (k + 1) v h]
theorem lsetW_eq : ∀ (lv : List (Option Value)) (i : Nat) (v : Value), i + 1 < lv.length → lv9 lv i = true → lsetW lv i v = (lv.set i (some v)).set (i + 1) none
  | [], _, _, hl, _ => by simp at hl
  | [a], 0, v, hl, _ => by simp at hl
  | a :: b :: r, 0, v, _, _ => by simp [lsetW]
  | a :: r, 1, v, hl, h => by
    simp only [lv9, Bool.not_eq_true'] at h
    simp only [lsetW, h, Bool.false_eq_true, if_false, List.set_cons_succ]
    rw [lsetW_eq r 0 v (by simp at hl ⊢; omega) (by cases r <;> rfl)]
  | a :: r, k + 2, v, hl, h => by
    simp only [lsetW, List.set_cons_succ]
    rw [lsetW_eq r (k + 1) v (by simp at hl ⊢; omega) h]
theorem lset_length : ∀ (lv : List (Option Value)) (i : Nat) (v : Value), (lset lv i v).length = lv.length
  | [], _, _ => by simp [lset]
  | _ :: r, 0, v => by simp [lset]
  | a :: r, 1, v => by simp [lset, lset_length r 0 v]
  | a :: r, k + 2, v => by simp [lset, lset_length r (k + 1) v]
theorem lsetW_length : ∀ (lv : List (Option Value)) (i : Nat) (v : Value), (lsetW lv i v).length = lv.length
  | [], _, _ => by simp [lsetW]
  | [a], 0, v => by simp [lsetW]
  | a :: b :: r, 0, v => by simp [lsetW]
  | a :: r, 1, v => by simp [lsetW, lsetW_length r 0 v]
  | a :: r, k + 2, v => by simp [lsetW, lsetW_length r (k + 1) v]
theorem lset_get : ∀ (lv : List (Option Value)) (i : Nat) (v : Value) (j : Nat) (w : Value), (lset lv i v)[j]? = some (some w) → (j = i ∧ w = v) ∨ (j ≠ i ∧ lv[j]? = some (some w) ∧ ¬ (j + 1 = i ∧ w.category = 2))
  | [], _, _, j, w, h => by simp [lset] at h
  | a :: r, 0, v, j, w, h => by
    cases j with
    | zero => simp [lset] at h; exact Or.inl ⟨rfl, h.symm⟩
    | succ j => simp [lset] at h; exact Or.inr ⟨by omega, by simpa using h, by omega⟩
  | a :: r, 1, v, j, w, h => by
    cases j with
    | zero =>
      simp only [lset, List.getElem?_cons_zero, Option.some.injEq] at h
      right
      refine ⟨by omega, ?_, ?_⟩
      · by_cases hc : cat2 a <;> simp [hc] at h; simp [h]
      · rintro ⟨-, hw⟩
        by_cases hc : cat2 a
        · simp [hc] at h
        · simp only [hc, Bool.false_eq_true, if_false] at h
          subst h
          cases w <;> simp [cat2, Value.category] at hc hw
    | succ j =>
      simp only [lset, List.getElem?_cons_succ] at h
      rcases lset_get r 0 v j w h with ⟨h1, h2⟩ | ⟨h1, h2, h3⟩
      · exact Or.inl ⟨by omega, h2⟩
      · exact Or.inr ⟨by omega, by simpa using h2, by omega⟩
  | a :: r, k + 2, v, j, w, h => by
    cases j with
    | zero => simp only [lset, List.getElem?_cons_zero, Option.some.injEq] at h; exact Or.inr ⟨by omega, by simp [h], by omega⟩
    | succ j =>
      simp only [lset, List.getElem?_cons_succ] at h
      rcases lset_get r (k + 1) v j w h with ⟨h1, h2⟩ | ⟨h1, h2, h3⟩
      · exact Or.inl ⟨by omega, h2⟩
      · exact Or.inr ⟨by omega, by simpa using h2, by omega⟩
theorem lsetW_get : ∀ (lv : List (Option Value)) (i : Nat) (v : Value) (j : Nat) (w : Value), i + 1 < lv.length → (lsetW lv i v)[j]? = some (some w) → (j = i ∧ w = v) ∨ (j ≠ i ∧ j ≠ i + 1 ∧ lv[j]? = some (some w) ∧ ¬ (j + 1 = i ∧ w.category = 2))
  | [], _, _, j, w, hl, h => by simp at hl
  | [a], 0, v, j, w, hl, h => by simp at hl
  | a :: b :: r, 0, v, j, w, hl, h => by
    cases j with
    | zero => simp [lsetW] at h; exact Or.inl ⟨rfl, h.symm⟩
    | succ j =>
      cases j with
      | zero => simp [lsetW] at h
      | succ j => simp [lsetW] at h; exact Or.inr ⟨by omega, by omega, by simpa using h, by omega⟩
  | a :: r, 1, v, j, w, hl, h => by
    cases j with
    | zero =>
      simp only [lsetW, List.getElem?_cons_zero, Option.some.injEq] at h
      right
      refine ⟨by omega, by omega, ?_, ?_⟩
      · by_cases hc : cat2 a <;> simp [hc] at h; simp [h]
      · rintro ⟨-, hw⟩
        by_cases hc : cat2 a
        · simp [hc] at h
        · simp only [hc, Bool.false_eq_true, if_false] at h
          subst h
          cases w <;> simp [cat2, Value.category] at hc hw
    | succ j =>
      simp only [lsetW, List.getElem?_cons_succ] at h
      rcases lsetW_get r 0 v j w (by simp at hl ⊢; omega) h with ⟨h1, h2⟩ | ⟨h1, h1', h2, h3⟩
      · exact Or.inl ⟨by omega, h2⟩
      · exact Or.inr ⟨by omega, by omega, by simpa using h2, by omega⟩
  | a :: r, k + 2, v, j, w, hl, h => by
    cases j with
    | zero => simp only [lsetW, List.getElem?_cons_zero, Option.some.injEq] at h; exact Or.inr ⟨by omega, by omega, by simp [h], by omega⟩
    | succ j =>
      simp only [lsetW, List.getElem?_cons_succ] at h
      rcases lsetW_get r (k + 1) v j w (by simp at hl ⊢; omega) h with ⟨h1, h2⟩ | ⟨h1, h1', h2, h3⟩
      · exact Or.inl ⟨by omega, h2⟩
      · exact Or.inr ⟨by omega, by omega, by simpa using h2, by omega⟩
theorem lvOK.set2 {ls : Array Slot} {lv : List (Option Value)} {i : Nat} {v : Value} (h : lvOK ls lv) (hi : i + 1 < lv.length) (hc : v.category = 2) : ∃ ls', storeLocals ls i v = some ls' ∧ lvOK ls' (lsetW lv i v) := by
  obtain ⟨ls', e', h'⟩ := lv_store2 (v := v) h.has hi hc
  refine ⟨ls', e', by rw [lsetW_length]; exact h'.1, h'.2.1, fun j w hj => ?_⟩
  rcases lsetW_get lv i v j w hi hj with ⟨rfl, rfl⟩ | ⟨h1, h1', h2, h3⟩
  · exact h'.2.2 (j, w) List.mem_cons_self
  · refine h'.2.2 (j, w) (List.mem_cons_of_mem _ (List.mem_filter.mpr ⟨lvp_mem.mpr h2, ?_⟩))
    simp only [Bool.and_eq_true, Bool.not_eq_true', beq_eq_false_iff_ne, ne_eq, Bool.and_eq_false_iff]
    exact ⟨h1, h1', by rcases Decidable.em (j + 1 = i) with e | e; exact Or.inr (fun z => h3 ⟨e, z⟩); exact Or.inl e⟩
theorem lvOK.set1 {ls : Array Slot} {lv : List (Option Value)} {i : Nat} {v : Value} (h : lvOK ls lv) (hi : i < lv.length) (hc : v.category = 1) : ∃ ls', storeLocals ls i v = some ls' ∧ lvOK ls' (lset lv i v) := by
  obtain ⟨ls', e', h'⟩ := lv_store1 (v := v) h.has hi hc
  refine ⟨ls', e', by rw [lset_length]; exact h'.1, h'.2.1, fun j w hj => ?_⟩
  rcases lset_get lv i v j w hj with ⟨rfl, rfl⟩ | ⟨h1, h2, h3⟩
  · exact h'.2.2 (j, w) List.mem_cons_self
  · refine h'.2.2 (j, w) (List.mem_cons_of_mem _ (List.mem_filter.mpr ⟨lvp_mem.mpr h2, ?_⟩))
    simp only [Bool.and_eq_true, Bool.not_eq_true', beq_eq_false_iff_ne, ne_eq, Bool.and_eq_false_iff]
    exact ⟨h1, by rcases Decidable.em (j + 1 = i) with e | e; exact Or.inr (fun z => h3 ⟨e, z⟩); exact Or.inl e⟩

/-- what a walk's method stands on -/
def wCtx (G : WG) (μ : MI) (p : Program) (s : State) (m : MethodId) (args : Array Value) (meth : Method) (c : Code) : Prop :=
  p.tables.exec = Jvm.exec ∧ c.code = mC μ ∧ meth.sig.returnType = mT μ ∧ c.maxLocals = mL μ ∧ s.vm.findClass (mY μ).cls = some m.cls ∧ (∀ w ∈ wt, w.before args s = true) ∧ wK G s ∧ meth.locks = false ∧ meth.name = (mY μ).name
/-- what a walk comes to -/
abbrev WZ : Type := List Frame → Array Value → State → State → Prop
/-- from this frame, over these cells, with this room left, the machine comes to Z -/
def wp (l : Launch) (G : WG) (μ : MI) (Z : WZ) (pc : Nat) (lv : List (Option Value)) (st : List Value) (h : Hp) (rc rs : Nat) : Prop :=
  ∀ (p : Program) (e : Env) (s : State) (m : MethodId) (args : Array Value) (below : List Frame) (meth : Method) (c : Code), wCtx G μ p s m args meth c →
  ∀ (H : Heap) (locs : List Loc) (cells slots : Nat) (ls : Array Slot), wR G h H → (∀ q ∈ locs, (gH G).size ≤ q.base) → cells + rc ≤ (mR μ).cells → slots + rs ≤ (mR μ).slots → lvOK ls lv → lv.length = mL μ →
  W p l e (mR μ) s m args below meth c H locs cells slots (Z below args s) (F0 m pc ls st)
/-- a method's contract: from the cells h, with these arguments, it answers v and leaves h', and Q v h' -/
def Sp (l : Launch) (G : WG) (μ : MI) (av : List Value) (h : Hp) (Q : Option Value → Hp → Prop) : Prop :=
  Met l (mY μ) (Cond.code (mY μ) (mC μ) (mL μ) (mT μ) :: wt) (mR μ) (va_Pc av (fun U => wK G U ∧ wR G h U.heap)) (fun _ _ o t => ∃ (v : Option Value) (h' : Hp), o = .returned v ∧ wR G h' t.heap ∧ Q v h') (mR μ).cells (mR μ).slots (fun q => (gH G).size ≤ q)
/-- a method's end, as its contract has it -/
def zM (G : WG) (μ : MI) (Q : Option Value → Hp → Prop) : WZ := fun below args s => MQ below (fun _ _ o t => ∃ (v : Option Value) (h' : Hp), o = .returned v ∧ wR G h' t.heap ∧ Q v h') args s (mR μ).cells (mR μ).slots (fun q => (gH G).size ≤ q)
/-- the locals at a method's entry -/
def lvE (av : List Value) (n : Nat) : List (Option Value) := let l := av.flatMap (fun v => if v.category = 2 then [some v, none] else [some v]); l ++ List.replicate (n - l.length) none
theorem lvE_get : ∀ (av : List Value) (i : Nat) (v : Value), (av.flatMap (fun v => if v.category = 2 then [some v, none] else [some v]))[i]? = some (some v) → (lg_sl av)[i]? = some (.val v)
  | [], i, v, h => by simp at h
  | a :: r, i, v, h => by
    simp only [List.flatMap_cons] at h
    simp only [lg_sl, List.flatMap_cons]
    by_cases hc : a.category = 2
    · simp only [hc, if_true] at h ⊢
      match i, h with
      | 0, h => simp at h; subst h; rfl
      | 1, h => simp at h
      | i + 2, h => simp only [List.cons_append, List.nil_append, List.getElem?_cons_succ] at h ⊢; exact lvE_get r i v h
    · simp only [hc, if_false] at h ⊢
      match i, h with
      | 0, h => simp at h; subst h; rfl
      | i + 1, h => simp only [List.cons_append, List.nil_append, List.getElem?_cons_succ] at h ⊢; exact lvE_get r i v h
theorem lvE_len (av : List Value) : (av.flatMap (fun v => if v.category = 2 then [some v, none] else [some v])).length = (lg_sl av).length := by
  induction av with
  | nil => rfl
  | cons a r ih =>
    simp only [lg_sl, List.flatMap_cons, List.length_append] at ih ⊢
    rw [ih]
    by_cases hc : a.category = 2 <;> simp [hc]
theorem lvE_ok (av : List Value) {n : Nat} (hn : (lg_sl av).length ≤ n) : lvOK ((lg_sl av ++ List.replicate (n - (lg_sl av).length) Slot.unset).toArray) (lvE av n) := by
  have h0 := lv_entry av hn
  refine ⟨?_, h0.2.1, fun i v h => ?_⟩
  · unfold lvE
    simp only [List.size_toArray, List.length_append, List.length_replicate]
    rw [lvE_len]
  · unfold lvE at h
    simp only at h
    rw [List.getElem?_append] at h
    split at h
    · have h2 := lvE_get av i v h
      have hl : i < (lg_sl av).length := (List.getElem?_eq_some_iff.mp h2).1
      rw [List.getElem?_toArray, List.getElem?_append_left hl]
      exact h2
    · rw [List.getElem?_replicate] at h
      split at h <;> simp at h
/-- a contract out of a walk from the entry -/
theorem Sp.intro {l : Launch} {G : WG} {μ : MI} {av : List Value} {h : Hp} {Q : Option Value → Hp → Prop} {lv : List (Option Value)} (hy : plainName (mY μ).cls = true) (hl : lvE av (mL μ) = lv) (hn : (lg_sl av).length ≤ mL μ)
    (k : wp l G μ (zM G μ Q) 0 lv [] h (mR μ).cells (mR μ).slots) : Sp l G μ av h Q := by
  refine Met.ofW (cc := mC μ) (maxL := mL μ) (ret := mT μ) hy rfl ?_
  intro p e s m args below meth c s₁ B hml hv
  obtain ⟨rfl, hK, hR⟩ := hv
  have hts := atoms_spec (ws := Cond.code (mY μ) (mC μ) (mL μ) (mT μ) :: wt) B.pre
  have C : wCtx G μ p s m av.toArray meth c := ⟨B.exec, B.bytes, B.returns, hml, findClass_of_methodNamed B.named, fun w hw => hts w (List.mem_cons_of_mem _ hw), hK, B.notSynchronized, (name_of_methodNamed B.named B.method).1⟩
  rw [lg_entry_eq]
  subst hl
  refine k p e s m av.toArray below meth c C s.heap [] 0 0 _ hR (fun q hq => by cases hq) (by simp) (by simp) (lvE_ok av hn) ?_
  unfold lvE
  simp only [List.length_append, List.length_replicate]
  rw [lvE_len]
  omega
theorem Sp.mono {l : Launch} {G : WG} {μ : MI} {av : List Value} {h : Hp} {Q Q' : Option Value → Hp → Prop} (hS : Sp l G μ av h Q) (hQ : ∀ v h', Q v h' → Q' v h') : Sp l G μ av h Q' := by
  intro p e ha hc hk s m args below hf hap hP hK
  obtain ⟨k, o, h1, h2, h3, ⟨v, h', a1, a2, a3⟩, h4⟩ := hS p e ha hc hk s m args below hf hap hP hK
  exact ⟨k, o, h1, h2, h3, ⟨v, h', a1, a2, hQ v h' a3⟩, h4⟩
