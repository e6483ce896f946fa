/-! ===== calls on the class's side: pure, with an answer, with none ===== -/
abbrev SpP (l : Launch) (G : WG) (μ : MI) (av : List Value) (h : Hp) (v : Value) : Prop := Sp l G μ av h (fun w h' => w = some v ∧ h' = h)
abbrev SpV (l : Launch) (G : WG) (μ : MI) (av : List Value) (h : Hp) (P : Value → Hp → Prop) : Prop := Sp l G μ av h (fun w h' => ∃ r, w = some r ∧ P r h')
abbrev SpN (l : Launch) (G : WG) (μ : MI) (av : List Value) (h : Hp) (P : Hp → Prop) : Prop := Sp l G μ av h (fun w h' => w = none ∧ P h')
section WCC
variable {l : Launch} {G : WG} {μ : MI} {Z : WZ} {pc : Nat} {lv : List (Option Value)} {st st0 : List Value} {h : Hp} {rc rs : Nat}
theorem wc_VP {μ2 : MI} {idx ci n b : Nat} {fs : List Value} {q : vw_C} {v : Value} (As : List Value) (hd : decode (mC μ) pc = .ok (.invokevirtual idx, 3)) (hst : st0 = As.reverse ++ .ref b :: st) (hc : h b = some (oB ci fs)) (hq : vwCl[ci]? = some q) (cv : CV (mY μ).cls idx q.1 μ2 n) (hn9 : As.length = n) (hf : fitM μ2 μ) (hw : (st.map fun v => v.category).sum ≤ 8) (hS : SpP l G μ2 (.ref b :: As) h v)
    (kk : wp l G μ Z (pc + 3) lv (v :: st) h rc rs) : wp l G μ Z pc lv st0 h (rc + (mR μ2).cells) (rs + (mR μ2).slots) :=
  wp_callV As hd hst hc hq cv hn9 hf hw hS (fun w h' q => by obtain ⟨rfl, rfl⟩ := q; exact kk)
theorem wc_VV {μ2 : MI} {idx ci n b : Nat} {fs : List Value} {q : vw_C} {P : Value → Hp → Prop} (As : List Value) (hd : decode (mC μ) pc = .ok (.invokevirtual idx, 3)) (hst : st0 = As.reverse ++ .ref b :: st) (hc : h b = some (oB ci fs)) (hq : vwCl[ci]? = some q) (cv : CV (mY μ).cls idx q.1 μ2 n) (hn9 : As.length = n) (hf : fitM μ2 μ) (hw : (st.map fun v => v.category).sum ≤ 8) (hS : SpV l G μ2 (.ref b :: As) h P)
    (kk : ∀ (r : Value) (h' : Hp), P r h' → wp l G μ Z (pc + 3) lv (r :: st) h' rc rs) : wp l G μ Z pc lv st0 h (rc + (mR μ2).cells) (rs + (mR μ2).slots) :=
  wp_callV As hd hst hc hq cv hn9 hf hw hS (fun w h' q => by obtain ⟨r, rfl, q⟩ := q; exact kk r h' q)
theorem wc_VN {μ2 : MI} {idx ci n b : Nat} {fs : List Value} {q : vw_C} {P : Hp → Prop} (As : List Value) (hd : decode (mC μ) pc = .ok (.invokevirtual idx, 3)) (hst : st0 = As.reverse ++ .ref b :: st) (hc : h b = some (oB ci fs)) (hq : vwCl[ci]? = some q) (cv : CV (mY μ).cls idx q.1 μ2 n) (hn9 : As.length = n) (hf : fitM μ2 μ) (hw : (st.map fun v => v.category).sum ≤ 8) (hS : SpN l G μ2 (.ref b :: As) h P)
    (kk : ∀ (h' : Hp), P h' → wp l G μ Z (pc + 3) lv st h' rc rs) : wp l G μ Z pc lv st0 h (rc + (mR μ2).cells) (rs + (mR μ2).slots) :=
  wp_callV As hd hst hc hq cv hn9 hf hw hS (fun w h' q => by obtain ⟨rfl, q⟩ := q; exact kk h' q)
theorem wc_UP {μ2 : MI} {idx ci n b : Nat} {fs : List Value} {q : vw_C} {owner : String} {x : MethodName} {v : Value} (As : List Value) (hd : decode (mC μ) pc = .ok (.invokevirtual idx, 3)) (hst : st0 = As.reverse ++ .ref b :: st) (hc : h b = some (oB ci fs)) (hq : vwCl[ci]? = some q) (cv : CU (mY μ).cls idx q.1 owner x μ2 n) (hn9 : As.length = n) (hf : fitM μ2 μ) (hw : (st.map fun v => v.category).sum ≤ 8) (hS : SpP l G μ2 (.ref b :: As) h v)
    (kk : wp l G μ Z (pc + 3) lv (v :: st) h rc rs) : wp l G μ Z pc lv st0 h (rc + (mR μ2).cells) (rs + (mR μ2).slots) :=
  wp_callU As hd hst hc hq cv hn9 hf hw hS (fun w h' q => by obtain ⟨rfl, rfl⟩ := q; exact kk)
theorem wc_UV {μ2 : MI} {idx ci n b : Nat} {fs : List Value} {q : vw_C} {owner : String} {x : MethodName} {P : Value → Hp → Prop} (As : List Value) (hd : decode (mC μ) pc = .ok (.invokevirtual idx, 3)) (hst : st0 = As.reverse ++ .ref b :: st) (hc : h b = some (oB ci fs)) (hq : vwCl[ci]? = some q) (cv : CU (mY μ).cls idx q.1 owner x μ2 n) (hn9 : As.length = n) (hf : fitM μ2 μ) (hw : (st.map fun v => v.category).sum ≤ 8) (hS : SpV l G μ2 (.ref b :: As) h P)
    (kk : ∀ (r : Value) (h' : Hp), P r h' → wp l G μ Z (pc + 3) lv (r :: st) h' rc rs) : wp l G μ Z pc lv st0 h (rc + (mR μ2).cells) (rs + (mR μ2).slots) :=
  wp_callU As hd hst hc hq cv hn9 hf hw hS (fun w h' q => by obtain ⟨r, rfl, q⟩ := q; exact kk r h' q)
theorem wc_UN {μ2 : MI} {idx ci n b : Nat} {fs : List Value} {q : vw_C} {owner : String} {x : MethodName} {P : Hp → Prop} (As : List Value) (hd : decode (mC μ) pc = .ok (.invokevirtual idx, 3)) (hst : st0 = As.reverse ++ .ref b :: st) (hc : h b = some (oB ci fs)) (hq : vwCl[ci]? = some q) (cv : CU (mY μ).cls idx q.1 owner x μ2 n) (hn9 : As.length = n) (hf : fitM μ2 μ) (hw : (st.map fun v => v.category).sum ≤ 8) (hS : SpN l G μ2 (.ref b :: As) h P)
    (kk : ∀ (h' : Hp), P h' → wp l G μ Z (pc + 3) lv st h' rc rs) : wp l G μ Z pc lv st0 h (rc + (mR μ2).cells) (rs + (mR μ2).slots) :=
  wp_callU As hd hst hc hq cv hn9 hf hw hS (fun w h' q => by obtain ⟨rfl, q⟩ := q; exact kk h' q)
theorem wc_SP {μ2 : MI} {idx n : Nat} {v : Value} (As : List Value) (hd : decode (mC μ) pc = .ok (.invokestatic idx, 3)) (hst : st0 = As.reverse ++ st) (cv : CS (mY μ).cls idx μ2 n) (hn9 : As.length = n) (hf : fitM μ2 μ) (hw : (st.map fun v => v.category).sum ≤ 8) (hS : SpP l G μ2 As h v)
    (kk : wp l G μ Z (pc + 3) lv (v :: st) h rc rs) : wp l G μ Z pc lv st0 h (rc + (mR μ2).cells) (rs + (mR μ2).slots) :=
  wp_callS As hd hst cv hn9 hf hw hS (fun w h' q => by obtain ⟨rfl, rfl⟩ := q; exact kk)
theorem wc_SV {μ2 : MI} {idx n : Nat} {P : Value → Hp → Prop} (As : List Value) (hd : decode (mC μ) pc = .ok (.invokestatic idx, 3)) (hst : st0 = As.reverse ++ st) (cv : CS (mY μ).cls idx μ2 n) (hn9 : As.length = n) (hf : fitM μ2 μ) (hw : (st.map fun v => v.category).sum ≤ 8) (hS : SpV l G μ2 As h P)
    (kk : ∀ (r : Value) (h' : Hp), P r h' → wp l G μ Z (pc + 3) lv (r :: st) h' rc rs) : wp l G μ Z pc lv st0 h (rc + (mR μ2).cells) (rs + (mR μ2).slots) :=
  wp_callS As hd hst cv hn9 hf hw hS (fun w h' q => by obtain ⟨r, rfl, q⟩ := q; exact kk r h' q)
theorem wc_SN {μ2 : MI} {idx n : Nat} {P : Hp → Prop} (As : List Value) (hd : decode (mC μ) pc = .ok (.invokestatic idx, 3)) (hst : st0 = As.reverse ++ st) (cv : CS (mY μ).cls idx μ2 n) (hn9 : As.length = n) (hf : fitM μ2 μ) (hw : (st.map fun v => v.category).sum ≤ 8) (hS : SpN l G μ2 As h P)
    (kk : ∀ (h' : Hp), P h' → wp l G μ Z (pc + 3) lv st h' rc rs) : wp l G μ Z pc lv st0 h (rc + (mR μ2).cells) (rs + (mR μ2).slots) :=
  wp_callS As hd hst cv hn9 hf hw hS (fun w h' q => by obtain ⟨rfl, q⟩ := q; exact kk h' q)
theorem wc_IP {μ2 : MI} {idx n b : Nat} {v : Value} (As : List Value) (hd : decode (mC μ) pc = .ok (.invokespecial idx, 3)) (hst : st0 = As.reverse ++ .ref b :: st) (cv : CI (mY μ).cls idx μ2 n) (hn9 : As.length = n) (hf : fitM μ2 μ) (hw : (st.map fun v => v.category).sum ≤ 8) (hS : SpP l G μ2 (.ref b :: As) h v)
    (kk : wp l G μ Z (pc + 3) lv (v :: st) h rc rs) : wp l G μ Z pc lv st0 h (rc + (mR μ2).cells) (rs + (mR μ2).slots) :=
  wp_callI As hd hst cv hn9 hf hw hS (fun w h' q => by obtain ⟨rfl, rfl⟩ := q; exact kk)
theorem wc_IV {μ2 : MI} {idx n b : Nat} {P : Value → Hp → Prop} (As : List Value) (hd : decode (mC μ) pc = .ok (.invokespecial idx, 3)) (hst : st0 = As.reverse ++ .ref b :: st) (cv : CI (mY μ).cls idx μ2 n) (hn9 : As.length = n) (hf : fitM μ2 μ) (hw : (st.map fun v => v.category).sum ≤ 8) (hS : SpV l G μ2 (.ref b :: As) h P)
    (kk : ∀ (r : Value) (h' : Hp), P r h' → wp l G μ Z (pc + 3) lv (r :: st) h' rc rs) : wp l G μ Z pc lv st0 h (rc + (mR μ2).cells) (rs + (mR μ2).slots) :=
  wp_callI As hd hst cv hn9 hf hw hS (fun w h' q => by obtain ⟨r, rfl, q⟩ := q; exact kk r h' q)
theorem wc_IN {μ2 : MI} {idx n b : Nat} {P : Hp → Prop} (As : List Value) (hd : decode (mC μ) pc = .ok (.invokespecial idx, 3)) (hst : st0 = As.reverse ++ .ref b :: st) (cv : CI (mY μ).cls idx μ2 n) (hn9 : As.length = n) (hf : fitM μ2 μ) (hw : (st.map fun v => v.category).sum ≤ 8) (hS : SpN l G μ2 (.ref b :: As) h P)
    (kk : ∀ (h' : Hp), P h' → wp l G μ Z (pc + 3) lv st h' rc rs) : wp l G μ Z pc lv st0 h (rc + (mR μ2).cells) (rs + (mR μ2).slots) :=
  wp_callI As hd hst cv hn9 hf hw hS (fun w h' q => by obtain ⟨rfl, q⟩ := q; exact kk h' q)
theorem wc_NP {μ2 : MI} {idx n b : Nat} {host : String} {v : Value} (As : List Value) (hd : decode (mC μ) pc = .ok (.invokespecial idx, 3)) (hst : st0 = As.reverse ++ .ref b :: st) (cv : CN (mY μ).cls idx host μ2 n) (hn9 : As.length = n) (hf : fitM μ2 μ) (hw : (st.map fun v => v.category).sum ≤ 8) (hS : SpP l G μ2 (.ref b :: As) h v)
    (kk : wp l G μ Z (pc + 3) lv (v :: st) h rc rs) : wp l G μ Z pc lv st0 h (rc + (mR μ2).cells) (rs + (mR μ2).slots) :=
  wp_callN As hd hst cv hn9 hf hw hS (fun w h' q => by obtain ⟨rfl, rfl⟩ := q; exact kk)
theorem wc_NV {μ2 : MI} {idx n b : Nat} {host : String} {P : Value → Hp → Prop} (As : List Value) (hd : decode (mC μ) pc = .ok (.invokespecial idx, 3)) (hst : st0 = As.reverse ++ .ref b :: st) (cv : CN (mY μ).cls idx host μ2 n) (hn9 : As.length = n) (hf : fitM μ2 μ) (hw : (st.map fun v => v.category).sum ≤ 8) (hS : SpV l G μ2 (.ref b :: As) h P)
    (kk : ∀ (r : Value) (h' : Hp), P r h' → wp l G μ Z (pc + 3) lv (r :: st) h' rc rs) : wp l G μ Z pc lv st0 h (rc + (mR μ2).cells) (rs + (mR μ2).slots) :=
  wp_callN As hd hst cv hn9 hf hw hS (fun w h' q => by obtain ⟨r, rfl, q⟩ := q; exact kk r h' q)
theorem wc_NN {μ2 : MI} {idx n b : Nat} {host : String} {P : Hp → Prop} (As : List Value) (hd : decode (mC μ) pc = .ok (.invokespecial idx, 3)) (hst : st0 = As.reverse ++ .ref b :: st) (cv : CN (mY μ).cls idx host μ2 n) (hn9 : As.length = n) (hf : fitM μ2 μ) (hw : (st.map fun v => v.category).sum ≤ 8) (hS : SpN l G μ2 (.ref b :: As) h P)
    (kk : ∀ (h' : Hp), P h' → wp l G μ Z (pc + 3) lv st h' rc rs) : wp l G μ Z pc lv st0 h (rc + (mR μ2).cells) (rs + (mR μ2).slots) :=
  wp_callN As hd hst cv hn9 hf hw hS (fun w h' q => by obtain ⟨rfl, q⟩ := q; exact kk h' q)
end WCC
/-- the entry of a method for which the model has no row of its own -/
theorem Sp.introF {l : Launch} {G : WG} {μ : MI} {av : List Value} {h : Hp} {Q : Option Value → Hp → Prop} {lv : List (Option Value)} (hy : plainFor (mY μ) = true) (hl : lvE av (mL μ) = lv) (hn : (lg_sl av).length ≤ mL μ)
    (k : wp l G μ (zM G μ Q) 0 lv [] h (mR μ).cells (mR μ).slots) : Sp l G μ av h Q := by
  unfold Sp Met
  refine MetFree.of_bodySF (code := mC μ) (maxLocals := mL μ) (ret := mT μ) hy ?_ ?_
  · intro args s m h hn
    obtain ⟨meth, c, h1, h2, h3, h4, h5, h6, -, -⟩ := Cond.code_spec hn (atoms_spec (ws := Cond.code (mY μ) (mC μ) (mL μ) (mT μ) :: wt) h _ List.mem_cons_self)
    exact ⟨meth, c, h1, h2, h3, h4, h5, h6⟩
  · intro p e s m args below meth c s₁ B hml hv _
    have hh0 : s₁.heap = s.heap := by rw [B.state]; rfl
    obtain ⟨rfl, hK, hR⟩ := hv
    have hts := atoms_spec (ws := Cond.code (mY μ) (mC μ) (mL μ) (mT μ) :: wt) B.pre
    have C : wCtx G μ p s m av.toArray meth c := ⟨B.exec, B.bytes, B.returns, hml, findClass_of_methodNamed B.named, fun w hw => hts w (List.mem_cons_of_mem _ hw), hK, B.notSynchronized, (name_of_methodNamed B.named B.method).1⟩
    have hk : W p l e (headSpec (Cond.code (mY μ) (mC μ) (mL μ) (mT μ) :: wt) (mR μ)).room s m av.toArray below meth c s.heap [] 0 0 (zM G μ Q below av.toArray s) (entryFrame m av.toArray (mL μ)) := by
      rw [lg_entry_eq]
      subst hl
      refine k p e s m av.toArray below meth c C s.heap [] 0 0 _ hR (fun q hq => by cases hq) (by simp) (by simp) (lvE_ok av hn) ?_
      unfold lvE
      simp only [List.length_append, List.length_replicate]
      rw [lvE_len]
      omega
    obtain ⟨t, a1, o, b1, b2, b3⟩ := hk s₁ hh0 (Stand.of_body B)
    exact ⟨t, o, a1, b1, b2, ⟨b3.1, b3.2⟩⟩
theorem pl_max : plainFor yJ9_max_7cf53 = true := by decide +kernel
theorem pl_min : plainFor yJ9_min_7cf53 = true := by decide +kernel
theorem pl_fmd : plainFor yJ9_floorMod_7cf53 = true := by decide +kernel
/-! ===== the JDK's methods ===== -/
def lstF (n : Nat) (el : Nat → Nat) : Nat → Option Nat := fun i => if i < n then some (el i) else none
theorem lstF_i {n i : Nat} (el : Nat → Nat) (h : i < n) : lstF n el i = some (el i) := by simp [lstF, h]
theorem lstF_0 (el : Nat → Nat) : lstF 0 el = fun _ => none := by funext i; simp [lstF]
theorem lstF_add (n : Nat) (el : Nat → Nat) (e : Nat) : fu (lstF n el) n (some e) = lstF (n + 1) (fu el n e) := by
  funext i
  unfold lstF fu
  by_cases h1 : i = n
  · subst h1; simp
  · simp only [h1, if_false]
    by_cases h2 : i < n
    · simp [h2, Nat.lt_succ_of_lt h2]
    · simp [h2, show ¬ i < n + 1 by omega]
def shl (el : Nat → Nat) (a : Nat) : Nat → Nat := fun i => if i < a then el i else el (i + 1)
theorem lstF_rem {n a : Nat} (el : Nat → Nat) (h : a < n) : fu (va_cpy (lstF n el) (lstF n el) (a + 1) a (n - 1 - a)) (n - 1) none = lstF (n - 1) (shl el a) := by
  funext i
  unfold lstF fu va_cpy shl
  by_cases h1 : i = n - 1
  · subst h1; simp
  · simp only [h1, if_false]
    by_cases h2 : a ≤ i ∧ i < a + (n - 1 - a)
    · have e : a + 1 + (i - a) = i + 1 := by omega
      simp only [h2, and_self, if_true, e, show i + 1 < n by omega, show i < n - 1 by omega, show ¬ i < a by omega, if_false]
    · rw [if_neg h2]
      by_cases h3 : i < n
      · simp only [h3, if_true, show i < n - 1 by omega, show i < a by omega]
      · simp [h3, show ¬ i < n - 1 by omega]
theorem lstF_rem0 {n a : Nat} (el : Nat → Nat) (h : a + 1 = n) : fu (lstF n el) a none = lstF (n - 1) (shl el a) := by
  rw [← lstF_rem el (show a < n by omega)]
  funext i
  unfold fu va_cpy
  rw [show n - 1 = a by omega]
  by_cases h1 : i = a
  · simp [h1]
  · simp only [h1, if_false]
    rw [if_neg (by omega)]
def jmax (x y : Int32) : Int32 := if x < y then y else x
def jmin (x y : Int32) : Int32 := if y < x then y else x
def fmd (x y : Int32) : Int32 := if 0 ≤ x ^^^ y then x - x / y * y else if x - x / y * y = 0 then x - x / y * y else x - x / y * y + y
section JD
variable (l : Launch) (G : WG)
theorem j_max (x y : Int32) (h : Hp)  : SpP l G mJ9_max_7cf53 [.int x, .int y] h (.int (jmax x y)) := by
  refine Sp.introF (lv := [_, _]) pl_max rfl (Nat.le_of_ble_eq_true rfl) ?_
  refine wp_iload_n (pc := 0) dJ9_max_7cf53_0 rfl rfl ?_
  refine wp_iload_n (pc := 1) dJ9_max_7cf53_1 rfl rfl ?_
  refine wp_icmp_lt (pc := 2) (tgt := 9) dJ9_max_7cf53_2 (by decide) (fun c2 => ?_) (fun c2 => ?_)
  · skip
    refine wp_iload_n (pc := 9) dJ9_max_7cf53_9 rfl rfl ?_
    exact wp_iret (pc := 10) dJ9_max_7cf53_10 rfl ⟨by simp only [jmax, eq_true c2, if_true, if_false], rfl⟩
  · skip
    refine wp_iload_n (pc := 5) dJ9_max_7cf53_5 rfl rfl ?_
    refine wp_goto (pc := 6) (tgt := 10) dJ9_max_7cf53_6 (by decide) ?_
    exact wp_iret (pc := 10) dJ9_max_7cf53_10 rfl ⟨by simp only [jmax, eq_false c2, if_true, if_false], rfl⟩
theorem j_min (x y : Int32) (h : Hp)  : SpP l G mJ9_min_7cf53 [.int x, .int y] h (.int (jmin x y)) := by
  refine Sp.introF (lv := [_, _]) pl_min rfl (Nat.le_of_ble_eq_true rfl) ?_
  refine wp_iload_n (pc := 0) dJ9_min_7cf53_0 rfl rfl ?_
  refine wp_iload_n (pc := 1) dJ9_min_7cf53_1 rfl rfl ?_
  refine wp_icmp_gt (pc := 2) (tgt := 9) dJ9_min_7cf53_2 (by decide) (fun c2 => ?_) (fun c2 => ?_)
  · skip
    refine wp_iload_n (pc := 9) dJ9_min_7cf53_9 rfl rfl ?_
    exact wp_iret (pc := 10) dJ9_min_7cf53_10 rfl ⟨by simp only [jmin, eq_true c2, if_true, if_false], rfl⟩
  · skip
    refine wp_iload_n (pc := 5) dJ9_min_7cf53_5 rfl rfl ?_
    refine wp_goto (pc := 6) (tgt := 10) dJ9_min_7cf53_6 (by decide) ?_
    exact wp_iret (pc := 10) dJ9_min_7cf53_10 rfl ⟨by simp only [jmin, eq_false c2, if_true, if_false], rfl⟩
theorem j_floorMod (x y : Int32) (h : Hp) (hy : ¬ y = 0) : SpP l G mJ9_floorMod_7cf53 [.int x, .int y] h (.int (fmd x y)) := by
  refine Sp.introF (lv := [_, _, _]) pl_fmd rfl (Nat.le_of_ble_eq_true rfl) ?_
  refine wp_iload_n (pc := 0) dJ9_floorMod_7cf53_0 rfl rfl ?_
  refine wp_iload_n (pc := 1) dJ9_floorMod_7cf53_1 rfl rfl ?_
  refine wp_irem (pc := 2) dJ9_floorMod_7cf53_2 hy ?_
  refine wp_istore_n (pc := 3) (lv' := [_, _, _]) dJ9_floorMod_7cf53_3 rfl (Nat.le_of_ble_eq_true rfl) rfl rfl ?_
  refine wp_iload_n (pc := 4) dJ9_floorMod_7cf53_4 rfl rfl ?_
  refine wp_iload_n (pc := 5) dJ9_floorMod_7cf53_5 rfl rfl ?_
  refine wp_ixor (pc := 6) dJ9_floorMod_7cf53_6 ?_
  refine wp_if_ge (pc := 7) (tgt := 18) dJ9_floorMod_7cf53_7 (by decide) (fun c7 => ?_) (fun c7 => ?_)
  · skip
    refine wp_iload_n (pc := 18) dJ9_floorMod_7cf53_18 rfl rfl ?_
    exact wp_iret (pc := 19) dJ9_floorMod_7cf53_19 rfl ⟨by simp only [fmd, eq_true c7, if_true, if_false], rfl⟩
  · skip
    refine wp_iload_n (pc := 10) dJ9_floorMod_7cf53_10 rfl rfl ?_
    refine wp_if_eq (pc := 11) (tgt := 18) dJ9_floorMod_7cf53_11 (by decide) (fun c11 => ?_) (fun c11 => ?_)
    · skip
      refine wp_iload_n (pc := 18) dJ9_floorMod_7cf53_18 rfl rfl ?_
      exact wp_iret (pc := 19) dJ9_floorMod_7cf53_19 rfl ⟨by simp only [fmd, eq_false c7, eq_true c11, if_true, if_false], rfl⟩
    · skip
      refine wp_iload_n (pc := 14) dJ9_floorMod_7cf53_14 rfl rfl ?_
      refine wp_iload_n (pc := 15) dJ9_floorMod_7cf53_15 rfl rfl ?_
      refine wp_iadd (pc := 16) dJ9_floorMod_7cf53_16 ?_
      exact wp_iret (pc := 17) dJ9_floorMod_7cf53_17 rfl ⟨by simp only [fmd, eq_false c7, eq_false c11, if_true, if_false], rfl⟩
theorem j_pci (i n : Nat) (h : Hp) (hi : i < n) (hn : n < 2 ^ 31) : SpP l G mJ3_checkIndex_8e157 [.int (nI i), .int (nI n), .null] h (.int (nI i)) := by
  refine Sp.intro (lv := [_, _, _]) (by decide) rfl (Nat.le_of_ble_eq_true rfl) ?_
  refine wp_iload_n (pc := 0) dJ3_checkIndex_8e157_0 rfl rfl ?_
  refine wp_if_lt (pc := 1) (tgt := 9) dJ3_checkIndex_8e157_1 (by decide) (fun z => absurd z (nI_pos (by omega))) (fun _ => ?_)
  refine wp_iload_n (pc := 4) dJ3_checkIndex_8e157_4 rfl rfl ?_
  refine wp_iload_n (pc := 5) dJ3_checkIndex_8e157_5 rfl rfl ?_
  refine wp_icmp_lt (pc := 6) (tgt := 16) dJ3_checkIndex_8e157_6 (by decide) (fun _ => ?_) (fun z => absurd (nI_lt hi hn) z)
  refine wp_iload_n (pc := 16) dJ3_checkIndex_8e157_16 rfl rfl ?_
  exact wp_iret (pc := 17) dJ3_checkIndex_8e157_17 rfl ⟨rfl, rfl⟩
theorem j_ci (i n : Nat) (h : Hp) (hi : i < n) (hn : n < 2 ^ 31) : SpP l G mJ15_checkIndex_7cf53 [.int (nI i), .int (nI n)] h (.int (nI i)) := by
  refine Sp.intro (lv := [_, _]) (by decide) rfl (Nat.le_of_ble_eq_true rfl) ?_
  refine wp_iload_n (pc := 0) dJ15_checkIndex_7cf53_0 rfl rfl ?_
  refine wp_iload_n (pc := 1) dJ15_checkIndex_7cf53_1 rfl rfl ?_
  refine wp_null (pc := 2) dJ15_checkIndex_7cf53_2 ?_
  refine wc_SP (pc := 3) (μ2 := mJ3_checkIndex_8e157) (rc := 0) (rs := 0) [_, _, _] dJ15_checkIndex_7cf53_3 rfl cs_J15_105 rfl ⟨(Nat.le_of_ble_eq_true rfl), (Nat.le_of_ble_eq_true rfl)⟩ (Nat.le_of_ble_eq_true rfl) (j_pci l G _ _ h hi hn) ?_
  exact wp_iret (pc := 6) dJ15_checkIndex_7cf53_6 rfl ⟨rfl, rfl⟩
theorem j_size {a d n : Nat} {mc : Int32} (h : Hp) (ha : h a = some (oB 0 [.int mc, .ref d, .int (nI n)])) : SpP l G mJx4a65c_size_8abf5 [.ref a] h (.int (nI n)) := by
  refine Sp.intro (lv := [_]) (by decide) rfl (Nat.le_of_ble_eq_true rfl) ?_
  refine wp_aload_n (pc := 0) dJx4a65c_size_8abf5_0 rfl rfl ?_
  refine wp_get (pc := 1) dJx4a65c_size_8abf5_1 fl_Jx4a65c_48_0 ha rfl ?_
  exact wp_iret (pc := 4) dJx4a65c_size_8abf5_4 rfl ⟨rfl, rfl⟩
theorem j_isEmpty {a d n : Nat} {mc : Int32} (h : Hp) (ha : h a = some (oB 0 [.int mc, .ref d, .int (nI n)])) : SpP l G mJx4a65c_isEmpty_aae02 [.ref a] h (.int (if nI n = 0 then 1 else 0)) := by
  refine Sp.intro (lv := [_]) (by decide) rfl (Nat.le_of_ble_eq_true rfl) ?_
  refine wp_aload_n (pc := 0) dJx4a65c_isEmpty_aae02_0 rfl rfl ?_
  refine wp_get (pc := 1) dJx4a65c_isEmpty_aae02_1 fl_Jx4a65c_48_0 ha rfl ?_
  refine wp_if_ne (pc := 4) (tgt := 11) dJx4a65c_isEmpty_aae02_4 (by decide) (fun c4 => ?_) (fun c4 => ?_)
  · skip
    refine wp_iconst (pc := 11) (v := 0) dJx4a65c_isEmpty_aae02_11 (by decide) ?_
    exact wp_zret (pc := 12) dJx4a65c_isEmpty_aae02_12 rfl (by decide) ⟨by simp only [eq_false c4, if_true, if_false], rfl⟩
  · skip
    refine wp_iconst (pc := 7) (v := 1) dJx4a65c_isEmpty_aae02_7 (by decide) ?_
    refine wp_goto (pc := 8) (tgt := 12) dJx4a65c_isEmpty_aae02_8 (by decide) ?_
    exact wp_zret (pc := 12) dJx4a65c_isEmpty_aae02_12 rfl (by decide) ⟨by simp only [eq_true c4, if_true, if_false], rfl⟩
theorem j_ed {a d n cap i : Nat} {mc : Int32} {el : Nat → Nat} (h : Hp) (ha : h a = some (oB 0 [.int mc, .ref d, .int (nI n)])) (hd0 : h d = some (aR 3 cap (lstF n el))) (hi : i < n) (hn : n ≤ cap) (hc : cap ≤ 600) : SpP l G mJx4a65c_elementData_915e3 [.ref a, .int (nI i)] h (.ref (el i)) := by
  refine Sp.intro (lv := [_, _]) (by decide) rfl (Nat.le_of_ble_eq_true rfl) ?_
  refine wp_aload_n (pc := 0) dJx4a65c_elementData_915e3_0 rfl rfl ?_
  refine wp_get (pc := 1) dJx4a65c_elementData_915e3_1 fl_Jx4a65c_9_0 ha rfl ?_
  refine wp_iload_n (pc := 4) dJx4a65c_elementData_915e3_4 rfl rfl ?_
  refine wp_aald (pc := 5) (i := i) (Or.inl rfl) dJx4a65c_elementData_915e3_5 hd0 ⟨rfl, by omega, by omega⟩ ?_
  rw [lstF_i el hi]
  exact wp_aret (r := some (el i)) (pc := 6) dJx4a65c_elementData_915e3_6 rfl (Or.inl ⟨_, rfl⟩) ⟨rfl, rfl⟩
theorem j_get {a d n cap i : Nat} {mc : Int32} {el : Nat → Nat} (h : Hp) (ha : h a = some (oB 0 [.int mc, .ref d, .int (nI n)])) (hd0 : h d = some (aR 3 cap (lstF n el))) (hi : i < n) (hn9 : n ≤ cap) (hc9 : cap ≤ 600) : SpP l G mJx4a65c_get_915e3 [.ref a, .int (nI i)] h (.ref (el i)) := by
  refine Sp.intro (lv := [_, _]) (by decide) rfl (Nat.le_of_ble_eq_true rfl) ?_
  refine wp_iload_n (pc := 0) dJx4a65c_get_915e3_0 rfl rfl ?_
  refine wp_aload_n (pc := 1) dJx4a65c_get_915e3_1 rfl rfl ?_
  refine wp_get (pc := 2) dJx4a65c_get_915e3_2 fl_Jx4a65c_48_0 ha rfl ?_
  refine wc_SP (pc := 5) (μ2 := mJ15_checkIndex_7cf53) (rc := 0) (rs := 0) [_, _] dJx4a65c_get_915e3_5 rfl cs_Jx4a65c_118 rfl ⟨(Nat.le_of_ble_eq_true rfl), (Nat.le_of_ble_eq_true rfl)⟩ (Nat.le_of_ble_eq_true rfl) (j_ci l G _ _ h hi (by omega)) ?_
  refine wp_pop (pc := 8) dJx4a65c_get_915e3_8 rfl ?_
  refine wp_aload_n (pc := 9) dJx4a65c_get_915e3_9 rfl rfl ?_
  refine wp_iload_n (pc := 10) dJx4a65c_get_915e3_10 rfl rfl ?_
  refine wc_VP (pc := 11) (μ2 := mJx4a65c_elementData_915e3) (rc := 0) (rs := 0) [_] dJx4a65c_get_915e3_11 rfl ha rfl cv_Jx4a65c_123_0 rfl ⟨(Nat.le_of_ble_eq_true rfl), (Nat.le_of_ble_eq_true rfl)⟩ (Nat.le_of_ble_eq_true rfl) (j_ed l G h ha hd0 hi hn9 hc9) ?_
  exact wp_aret (r := some (el i)) (pc := 14) dJx4a65c_get_915e3_14 rfl (Or.inl ⟨_, rfl⟩) ⟨rfl, rfl⟩
end JD
