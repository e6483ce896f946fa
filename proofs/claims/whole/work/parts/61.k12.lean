/-! ===== the class: constructors of things and workers; keeper, worker, thing ===== -/
section KW12
variable {l : Launch} {G : WG} {μ : MI} {Z : WZ} {pc : Nat} {lv : List (Option Value)} {st : List Value} {h : Hp}
theorem wp_newC {idx ci N : Nat} {Cn : String} {T : u_T} {fs : List Value} {rc rs : Nat} (hd : decode (mC μ) pc = .ok (.new idx, 3)) (hw : Cond.classLink (mY μ).cls idx Cn ∈ lw_tbl ∧ Cond.instantiable Cn N ∈ lw_tbl ∧ Cond.initialized Cn ∈ lw_tbl) (hq : vwCl[ci]? = some (Cn, T, N)) (hfs : ∀ j, j < N → defaultValue (cl_ty ci j) = vp_V fs j)
    (kk : ∀ (a : Nat) (h' : Hp), h a = none → h' a = some (oB ci fs) → (∀ q, q ≠ a → h' q = h q) → wp l G μ Z (pc + 3) lv (.ref a :: st) h' rc rs) : wp l G μ Z pc lv st h (rc + 1) (rs + N) := wp_new hd hw hq hfs (fun a ha _ => kk a _ ha (up_s ..) (fun q hq => up_n _ hq))
theorem wp_newaC {k N : Nat} {n : Int32} {at0 : ArrayType} {e0 : EC} {rc rs : Nat} (hd : decode (mC μ) pc = .ok (.newarray at0, 2)) (hw : Cond.arrayClass (newarray.typeOf at0) ∈ lw_tbl) (hk : (k = 0 ∨ k = 1 ∨ k = 2) ∧ newarray.typeOf at0 = w_ty k) (he : (k = 0 ∧ e0 = aI N (fun _ => 0)) ∨ (k = 1 ∧ e0 = aJ N (fun _ => 0)) ∨ (k = 2 ∧ e0 = aZ N (fun _ => 0))) (hn0 : n = nI N) (hN : N ≤ 65536)
    (kk : ∀ (a : Nat) (h' : Hp), h a = none → h' a = some e0 → (∀ q, q ≠ a → h' q = h q) → wp l G μ Z (pc + 2) lv (.ref a :: st) h' rc rs) : wp l G μ Z pc lv (.int n :: st) h (rc + 1) (rs + N) := wp_newa hd hw hk he hn0 hN (fun a ha _ => kk a _ ha (up_s ..) (fun q hq => up_n _ hq))
theorem wp_newqC {k idx N : Nat} {E : String} {n : Int32} {rc rs : Nat} (hk : k = 3 ∨ k = 4 ∨ k = 5) (hE : w_ty k = .object E) (hd : decode (mC μ) pc = .ok (.anewarray idx, 3)) (hw : Cond.classLink (mY μ).cls idx E ∈ lw_tbl) (hn0 : n = nI N) (hN : N ≤ 65536)
    (kk : ∀ (a : Nat) (h' : Hp), h a = none → h' a = some (aR k N (fun _ => none)) → (∀ q, q ≠ a → h' q = h q) → wp l G μ Z (pc + 3) lv (.ref a :: st) h' rc rs) : wp l G μ Z pc lv (.int n :: st) h (rc + 1) (rs + N) := wp_newq hk hE hd hw hn0 hN (fun a ha _ => kk a _ ha (up_s ..) (fun q hq => up_n _ hq))
theorem wp_aastC {a n i k ci v : Nat} {f : Nat → Option Nat} {fs : List Value} {x : Int32} {rc rs : Nat} (hk : k = 3 ∨ k = 4 ∨ k = 5) (hd : decode (mC μ) pc = .ok (.aastore, 1)) (hc : h a = some (aR k n f)) (hx : ix x n i) (hv : h v = some (oB ci fs)) (hcs : canSt k ci) (kk : ∀ h' : Hp, h' a = some (aR k n (fu f i (some v))) → (∀ q, q ≠ a → h' q = h q) → wp l G μ Z (pc + 1) lv st h' rc rs) : wp l G μ Z pc lv (.ref v :: .int x :: .ref a :: st) h rc rs := wp_aast hk hd hc hx hv hcs (kk _ (up_s ..) (fun q hq => up_n _ hq))
end KW12
section K12
variable (l : Launch) (G : WG)
theorem c_i7_8 {a : Nat} {k n s : Int32} (h : Hp) (ha : h a = some (oB 8 [.int 0, .int 0, .int 0, .null, .long 0])) : SpN l G mX7_init (.ref a :: [.int k, .int n, .int s]) h (fun h' => ∃ gl, h gl = none ∧ h' gl = some (oB 0 [.int 0, .ref (gE G), .int (nI 0)]) ∧ h' a = some (oB 8 [.int k, .int n, .int s, .ref gl, .long 0]) ∧ ∀ q, q ≠ a → q ≠ gl → h' q = h q) := by
  refine Sp.intro (lv := [_, _, _, _]) (by decide) rfl (Nat.le_of_ble_eq_true rfl) ?_
  refine wp_widen (rc' := 1) (rs' := 3) (Nat.le_refl _) (Nat.le_refl _) ?_
  generalize hQ0 : (fun (w : Option Value) (h' : Hp) => w = none ∧ ∃ gl, h gl = none ∧ h' gl = some (oB 0 [.int 0, .ref (gE G), .int (nI 0)]) ∧ h' a = some (oB 8 [.int k, .int n, .int s, .ref gl, .long 0]) ∧ ∀ q, q ≠ a → q ≠ gl → h' q = h q) = Q0
  refine wp_aload_n (pc := 0) dX7_init_0 rfl rfl ?_
  refine wp_iload_n (pc := 1) dX7_init_1 rfl rfl ?_
  refine wp_iload_n (pc := 2) dX7_init_2 rfl rfl ?_
  refine wp_iload_n (pc := 3) dX7_init_3 rfl rfl ?_
  refine wc_IN (pc := 4) (μ2 := mX4_init) (rc := 0) (rs := 0) [_, _, _] dX7_init_4 rfl cc_X7_3 rfl ⟨(Nat.le_of_ble_eq_true rfl), (Nat.le_of_ble_eq_true rfl)⟩ (Nat.le_of_ble_eq_true rfl) (c_i4_8 l G _ ha) (fun h q => ?_)
  obtain ⟨gl, gln, hgl, ha9, hf⟩ := q
  have hne : gl ≠ a := fun z => by rw [z, ha] at gln; cases gln
  have ha := ha9
  exact wp_vret (pc := 7) dX7_init_7 rfl (by rw [← hQ0]; exact ⟨rfl, gl, gln, hgl, ha, hf⟩)
theorem c_i7_1 {a : Nat} {k n s : Int32} (h : Hp) (ha : h a = some (oB 1 [.int 0, .int 0, .int 0, .null, .long 0, .int 0])) : SpN l G mX7_init (.ref a :: [.int k, .int n, .int s]) h (fun h' => ∃ gl, h gl = none ∧ h' gl = some (oB 0 [.int 0, .ref (gE G), .int (nI 0)]) ∧ h' a = some (oB 1 [.int k, .int n, .int s, .ref gl, .long 0, .int 0]) ∧ ∀ q, q ≠ a → q ≠ gl → h' q = h q) := by
  refine Sp.intro (lv := [_, _, _, _]) (by decide) rfl (Nat.le_of_ble_eq_true rfl) ?_
  refine wp_widen (rc' := 1) (rs' := 3) (Nat.le_refl _) (Nat.le_refl _) ?_
  generalize hQ0 : (fun (w : Option Value) (h' : Hp) => w = none ∧ ∃ gl, h gl = none ∧ h' gl = some (oB 0 [.int 0, .ref (gE G), .int (nI 0)]) ∧ h' a = some (oB 1 [.int k, .int n, .int s, .ref gl, .long 0, .int 0]) ∧ ∀ q, q ≠ a → q ≠ gl → h' q = h q) = Q0
  refine wp_aload_n (pc := 0) dX7_init_0 rfl rfl ?_
  refine wp_iload_n (pc := 1) dX7_init_1 rfl rfl ?_
  refine wp_iload_n (pc := 2) dX7_init_2 rfl rfl ?_
  refine wp_iload_n (pc := 3) dX7_init_3 rfl rfl ?_
  refine wc_IN (pc := 4) (μ2 := mX4_init) (rc := 0) (rs := 0) [_, _, _] dX7_init_4 rfl cc_X7_3 rfl ⟨(Nat.le_of_ble_eq_true rfl), (Nat.le_of_ble_eq_true rfl)⟩ (Nat.le_of_ble_eq_true rfl) (c_i4_1 l G _ ha) (fun h q => ?_)
  obtain ⟨gl, gln, hgl, ha9, hf⟩ := q
  have hne : gl ≠ a := fun z => by rw [z, ha] at gln; cases gln
  have ha := ha9
  exact wp_vret (pc := 7) dX7_init_7 rfl (by rw [← hQ0]; exact ⟨rfl, gl, gln, hgl, ha, hf⟩)
theorem c_i0 {a : Nat} {n s ww : Int32} (h : Hp) (ha : h a = some (oB 1 [.int 0, .int 0, .int 0, .null, .long 0, .int 0])) : SpN l G mX0_init (.ref a :: [.int n, .int s, .int ww]) h (fun h' => ∃ gl, h gl = none ∧ h' gl = some (oB 0 [.int 0, .ref (gE G), .int (nI 0)]) ∧ h' a = some (oB 1 [.int 2, .int n, .int s, .ref gl, .long 0, .int ww]) ∧ ∀ q, q ≠ a → q ≠ gl → h' q = h q) := by
  refine Sp.intro (lv := [_, _, _, _]) (by decide) rfl (Nat.le_of_ble_eq_true rfl) ?_
  refine wp_widen (rc' := 1) (rs' := 3) (Nat.le_refl _) (Nat.le_refl _) ?_
  generalize hQ0 : (fun (w : Option Value) (h' : Hp) => w = none ∧ ∃ gl, h gl = none ∧ h' gl = some (oB 0 [.int 0, .ref (gE G), .int (nI 0)]) ∧ h' a = some (oB 1 [.int 2, .int n, .int s, .ref gl, .long 0, .int ww]) ∧ ∀ q, q ≠ a → q ≠ gl → h' q = h q) = Q0
  refine wp_aload_n (pc := 0) dX0_init_0 rfl rfl ?_
  refine wp_iconst (pc := 1) (v := 2) dX0_init_1 (by decide) ?_
  refine wp_iload_n (pc := 2) dX0_init_2 rfl rfl ?_
  refine wp_iload_n (pc := 3) dX0_init_3 rfl rfl ?_
  refine wc_IN (pc := 4) (μ2 := mX7_init) (rc := 0) (rs := 0) [_, _, _] dX0_init_4 rfl cc_X0_3 rfl ⟨(Nat.le_of_ble_eq_true rfl), (Nat.le_of_ble_eq_true rfl)⟩ (Nat.le_of_ble_eq_true rfl) (c_i7_1 l G _ ha) (fun h q => ?_)
  obtain ⟨gl, gln, hgl, ha9, hf⟩ := q
  have hne : gl ≠ a := fun z => by rw [z, ha] at gln; cases gln
  have ha := ha9
  refine wp_aload_n (pc := 7) dX0_init_7 rfl rfl ?_
  refine wp_iload_n (pc := 8) dX0_init_8 rfl rfl ?_
  refine wp_putC (pc := 9) dX0_init_9 fl_X0_9_1 ha (Or.inr ⟨rfl, rfl, rfl⟩) (Nat.le_of_ble_eq_true rfl) rfl rfl rfl (fun h ha hq2 => ?_)
  have hgl := (hq2 gl hne).trans hgl
  have hf := fun q (h1 : q ≠ a) (h2 : q ≠ gl) => (hq2 q h1).trans (hf q h1 h2)
  exact wp_vret (pc := 12) dX0_init_12 rfl (by rw [← hQ0]; exact ⟨rfl, gl, gln, hgl, ha, hf⟩)
theorem c_i6 {a : Nat} {n s : Int32} (h : Hp) (ha : h a = some (oB 7 [.int 0, .int 0, .int 0, .null, .long 0, .int 0])) : SpN l G mX6_init (.ref a :: [.int n, .int s]) h (fun h' => ∃ gl, h gl = none ∧ h' gl = some (oB 0 [.int 0, .ref (gE G), .int (nI 0)]) ∧ h' a = some (oB 7 [.int 3, .int n, .int s, .ref gl, .long 0, .int (-1)]) ∧ ∀ q, q ≠ a → q ≠ gl → h' q = h q) := by
  refine Sp.intro (lv := [_, _, _]) (by decide) rfl (Nat.le_of_ble_eq_true rfl) ?_
  refine wp_widen (rc' := 1) (rs' := 3) (Nat.le_refl _) (Nat.le_refl _) ?_
  generalize hQ0 : (fun (w : Option Value) (h' : Hp) => w = none ∧ ∃ gl, h gl = none ∧ h' gl = some (oB 0 [.int 0, .ref (gE G), .int (nI 0)]) ∧ h' a = some (oB 7 [.int 3, .int n, .int s, .ref gl, .long 0, .int (-1)]) ∧ ∀ q, q ≠ a → q ≠ gl → h' q = h q) = Q0
  refine wp_aload_n (pc := 0) dX6_init_0 rfl rfl ?_
  refine wp_iconst (pc := 1) (v := 3) dX6_init_1 (by decide) ?_
  refine wp_iload_n (pc := 2) dX6_init_2 rfl rfl ?_
  refine wp_iload_n (pc := 3) dX6_init_3 rfl rfl ?_
  refine wc_IN (pc := 4) (μ2 := mX4_init) (rc := 0) (rs := 0) [_, _, _] dX6_init_4 rfl cc_X6_3 rfl ⟨(Nat.le_of_ble_eq_true rfl), (Nat.le_of_ble_eq_true rfl)⟩ (Nat.le_of_ble_eq_true rfl) (c_i4_7 l G _ ha) (fun h q => ?_)
  obtain ⟨gl, gln, hgl, ha9, hf⟩ := q
  have hne : gl ≠ a := fun z => by rw [z, ha] at gln; cases gln
  have ha := ha9
  refine wp_aload_n (pc := 7) dX6_init_7 rfl rfl ?_
  refine wp_iconst (pc := 8) (v := (-1)) dX6_init_8 (by decide) ?_
  refine wp_putC (pc := 9) dX6_init_9 fl_X6_9_7 ha (Or.inl rfl) (Nat.le_of_ble_eq_true rfl) rfl rfl rfl (fun h ha hq2 => ?_)
  have hgl := (hq2 gl hne).trans hgl
  have hf := fun q (h1 : q ≠ a) (h2 : q ≠ gl) => (hq2 q h1).trans (hf q h1 h2)
  exact wp_vret (pc := 12) dX6_init_12 rfl (by rw [← hQ0]; exact ⟨rfl, gl, gln, hgl, ha, hf⟩)
theorem c_i9 {a : Nat} {n s : Int32} (h : Hp) (ha : h a = some (oB 10 [.int 0, .int 0, .int 0, .null, .long 0, .null, .int 0, .int 0, .long 0])) : SpN l G mX9_init [.ref a, .int n, .int s] h (fun h' => ∃ gl qa, h gl = none ∧ h qa = none ∧ qa ≠ gl ∧ h' gl = some (oB 0 [.int 0, .ref (gE G), .int (nI 0)]) ∧ h' qa = some (aI 8 (fun _ => 0)) ∧ h' a = some (oB 10 [.int 4, .int n, .int s, .ref gl, .long 0, .ref qa, .int 0, .int 0, .long 0]) ∧ ∀ q, q ≠ a → q ≠ gl → q ≠ qa → h' q = h q) := by
  refine Sp.intro (lv := [_, _, _]) (by decide) rfl (Nat.le_of_ble_eq_true rfl) ?_
  refine wp_widen (rc' := 2) (rs' := 11) (Nat.le_refl _) (Nat.le_refl _) ?_
  generalize hQ0 : (fun (w : Option Value) (h' : Hp) => w = none ∧ ∃ gl qa, h gl = none ∧ h qa = none ∧ qa ≠ gl ∧ h' gl = some (oB 0 [.int 0, .ref (gE G), .int (nI 0)]) ∧ h' qa = some (aI 8 (fun _ => 0)) ∧ h' a = some (oB 10 [.int 4, .int n, .int s, .ref gl, .long 0, .ref qa, .int 0, .int 0, .long 0]) ∧ ∀ q, q ≠ a → q ≠ gl → q ≠ qa → h' q = h q) = Q0
  refine wp_aload_n (pc := 0) dX9_init_0 rfl rfl ?_
  refine wp_iconst (pc := 1) (v := 4) dX9_init_1 (by decide) ?_
  refine wp_iload_n (pc := 2) dX9_init_2 rfl rfl ?_
  refine wp_iload_n (pc := 3) dX9_init_3 rfl rfl ?_
  refine wc_IN (pc := 4) (μ2 := mX4_init) (rc := 1) (rs := 8) [_, _, _] dX9_init_4 rfl cc_X9_3 rfl ⟨(Nat.le_of_ble_eq_true rfl), (Nat.le_of_ble_eq_true rfl)⟩ (Nat.le_of_ble_eq_true rfl) (c_i4_10 l G _ ha) (fun h q => ?_)
  obtain ⟨gl, gln, hgl, ha9, hf⟩ := q
  have hne : gl ≠ a := fun z => by rw [z, ha] at gln; cases gln
  have ha := ha9
  refine wp_aload_n (pc := 7) dX9_init_7 rfl rfl ?_
  refine wp_bipush (pc := 8) (v := 8) dX9_init_8 (by decide) ?_
  refine wp_newaC (pc := 10) (k := 0) (N := 8) (rc := 0) (rs := 0) dX9_init_10 wA0 ⟨Or.inl rfl, rfl⟩ (Or.inl ⟨rfl, rfl⟩) rfl (by decide) (fun qa h qan qac qaf => ?_)
  have hqa : qa ≠ a := fun z => by rw [z, ha] at qan; cases qan
  have hqg : qa ≠ gl := fun z => by rw [z, hgl] at qan; cases qan
  have qan0 := (hf qa hqa hqg).symm.trans qan
  have ha := (qaf a (Ne.symm hqa)).trans ha
  have hgl := (qaf gl (Ne.symm hqg)).trans hgl
  have hf := fun q (h1 : q ≠ a) (h2 : q ≠ gl) (h3 : q ≠ qa) => (qaf q h3).trans (hf q h1 h2)
  refine wp_putC (pc := 12) dX9_init_12 fl_X9_9_10 ha (Or.inr ⟨rfl, rfl, rfl⟩) (Nat.le_of_ble_eq_true rfl) rfl rfl rfl (fun h ha hq2 => ?_)
  have hgl := (hq2 gl hne).trans hgl
  have qac := (hq2 qa hqa).trans qac
  have hf := fun q (h1 : q ≠ a) (h2 : q ≠ gl) (h3 : q ≠ qa) => (hq2 q h1).trans (hf q h1 h2 h3)
  refine wp_aload_n (pc := 15) dX9_init_15 rfl rfl ?_
  refine wp_iconst (pc := 16) (v := 0) dX9_init_16 (by decide) ?_
  refine wp_putC (pc := 17) dX9_init_17 fl_X9_15_10 ha (Or.inl rfl) (Nat.le_of_ble_eq_true rfl) rfl rfl rfl (fun h ha hq2 => ?_)
  have hgl := (hq2 gl hne).trans hgl
  have qac := (hq2 qa hqa).trans qac
  have hf := fun q (h1 : q ≠ a) (h2 : q ≠ gl) (h3 : q ≠ qa) => (hq2 q h1).trans (hf q h1 h2 h3)
  refine wp_aload_n (pc := 20) dX9_init_20 rfl rfl ?_
  refine wp_iconst (pc := 21) (v := 0) dX9_init_21 (by decide) ?_
  refine wp_putC (pc := 22) dX9_init_22 fl_X9_19_10 ha (Or.inl rfl) (Nat.le_of_ble_eq_true rfl) rfl rfl rfl (fun h ha hq2 => ?_)
  have hgl := (hq2 gl hne).trans hgl
  have qac := (hq2 qa hqa).trans qac
  have hf := fun q (h1 : q ≠ a) (h2 : q ≠ gl) (h3 : q ≠ qa) => (hq2 q h1).trans (hf q h1 h2 h3)
  refine wp_aload_n (pc := 25) dX9_init_25 rfl rfl ?_
  refine wp_lconst (pc := 26) (v := 0) dX9_init_26 (by decide) ?_
  refine wp_putC (pc := 27) dX9_init_27 fl_X9_23_10 ha (Or.inl rfl) (Nat.le_of_ble_eq_true rfl) rfl rfl rfl (fun h ha hq2 => ?_)
  have hgl := (hq2 gl hne).trans hgl
  have qac := (hq2 qa hqa).trans qac
  have hf := fun q (h1 : q ≠ a) (h2 : q ≠ gl) (h3 : q ≠ qa) => (hq2 q h1).trans (hf q h1 h2 h3)
  exact wp_vret (pc := 30) dX9_init_30 rfl (by rw [← hQ0]; exact ⟨rfl, gl, qa, gln, qan0, hqg, hgl, qac, ha, hf⟩)
theorem cM4 : canSt 4 4 := ⟨(RX3, TX3, 6), "LeaseBoard$Memory", rfl, rfl, Or.inl rfl⟩
theorem c_i10 {a : Nat} {b rt : Int32} (h : Hp) (ha : h a = some (oB 11 [.int 0, .int 0, .int 0, .null, .int 0])) : SpN l G mX10_init [.ref a, .int b, .int rt] h (fun h' => ∃ (r : Nat) (m : Nat → Nat), h' a = some (oB 11 [.int b, .int rt, .int 1, .ref r, .int 0]) ∧ h r = none ∧ h' r = some (aR 4 20 (lstF 20 m)) ∧ (∀ t, t < 20 → h (m t) = none ∧ h' (m t) = some (oB 4 [.int 0, .int 0, .int 0, .int 0, .long 0, .long 0]) ∧ m t ≠ r) ∧ (∀ t t', t < 20 → t' < 20 → m t = m t' → t = t') ∧ ∀ q, q ≠ a → q ≠ r → (∀ t, t < 20 → q ≠ m t) → h' q = h q) := by
  refine Sp.intro (lv := [_, _, _, _]) (by decide) rfl (Nat.le_of_ble_eq_true rfl) ?_
  refine wp_widen (rc' := 21) (rs' := 140) (Nat.le_refl _) (Nat.le_refl _) ?_
  generalize hQ0 : (fun (w : Option Value) (h' : Hp) => w = none ∧ ∃ (r : Nat) (m : Nat → Nat), h' a = some (oB 11 [.int b, .int rt, .int 1, .ref r, .int 0]) ∧ h r = none ∧ h' r = some (aR 4 20 (lstF 20 m)) ∧ (∀ t, t < 20 → h (m t) = none ∧ h' (m t) = some (oB 4 [.int 0, .int 0, .int 0, .int 0, .long 0, .long 0]) ∧ m t ≠ r) ∧ (∀ t t', t < 20 → t' < 20 → m t = m t' → t = t') ∧ ∀ q, q ≠ a → q ≠ r → (∀ t, t < 20 → q ≠ m t) → h' q = h q) = Q0
  obtain ⟨h0, hh0⟩ : ∃ h0, h0 = h := ⟨h, rfl⟩
  rw [← hh0] at hQ0
  refine wp_aload_n (pc := 0) dX10_init_0 rfl rfl ?_
  refine wp_iload_n (pc := 1) dX10_init_1 rfl rfl ?_
  refine wp_iload_n (pc := 2) dX10_init_2 rfl rfl ?_
  refine wc_IN (pc := 3) (μ2 := mX5_init) (rc := 21) (rs := 140) [_, _] dX10_init_3 rfl cc_X10_3 rfl ⟨(Nat.le_of_ble_eq_true rfl), (Nat.le_of_ble_eq_true rfl)⟩ (Nat.le_of_ble_eq_true rfl) (c_i5_11 l G _ ha) (fun h q => ?_)
  obtain ⟨ha, hf⟩ := q
  rw [← hh0] at hf
  refine wp_aload_n (pc := 6) dX10_init_6 rfl rfl ?_
  refine wp_bipush (pc := 7) (v := 20) dX10_init_7 (by decide) ?_
  refine wp_newqC (pc := 9) (k := 4) (N := 20) (rc := 20) (rs := 120) (Or.inr (Or.inl rfl)) rfl dX10_init_9 w2_8 rfl (by decide) (fun r h rn rc rf => ?_)
  have hra : r ≠ a := fun z => by rw [z, ha] at rn; cases rn
  have rn0 := (hf r hra).symm.trans rn
  have ha := (rf a (Ne.symm hra)).trans ha
  have hf := fun q (h1 : q ≠ a) (h2 : q ≠ r) => (rf q h2).trans (hf q h1)
  refine wp_putC (pc := 12) dX10_init_12 fl_X10_11_11 ha (Or.inr ⟨rfl, rfl, rfl⟩) (Nat.le_of_ble_eq_true rfl) rfl rfl rfl (fun h ha hq2 => ?_)
  have rc := (hq2 r hra).trans rc
  have hf := fun q (h1 : q ≠ a) (h2 : q ≠ r) => (hq2 q h1).trans (hf q h1 h2)
  refine wp_aload_n (pc := 15) dX10_init_15 rfl rfl ?_
  refine wp_iconst (pc := 16) (v := 0) dX10_init_16 (by decide) ?_
  refine wp_putC (pc := 17) dX10_init_17 fl_X10_17_11 ha (Or.inl rfl) (Nat.le_of_ble_eq_true rfl) rfl rfl rfl (fun h ha hq2 => ?_)
  have rc := (hq2 r hra).trans rc
  have hf := fun q (h1 : q ≠ a) (h2 : q ≠ r) => (hq2 q h1).trans (hf q h1 h2)
  refine wp_iconst (pc := 20) (v := 0) dX10_init_20 (by decide) ?_
  refine wp_istore_n (pc := 21) (lv' := [_, _, _, _]) dX10_init_21 rfl (Nat.le_of_ble_eq_true rfl) rfl rfl ?_
  have loop : ∀ i, i ≤ 20 → ∀ (h1 : Hp) (m : Nat → Nat), h1 a = some (oB 11 [.int b, .int rt, .int 1, .ref r, .int 0]) → h1 r = some (aR 4 20 (lstF i m)) → (∀ t, t < i → h0 (m t) = none ∧ h1 (m t) = some (oB 4 [.int 0, .int 0, .int 0, .int 0, .long 0, .long 0]) ∧ m t ≠ r) → (∀ t t', t < i → t' < i → m t = m t' → t = t') → (∀ q, q ≠ a → q ≠ r → (∀ t, t < i → q ≠ m t) → h1 q = h0 q) → wp l G mX10_init (zM G mX10_init Q0) 22 [some (.ref a), some (.int b), some (.int rt), some (.int (nI i))] [] h1 (20 - i) (6 * (20 - i)) := by
    refine loopU _ 20 (fun i hi ih => ?_) ?_
    · intro h m ha rc hm hmi hf
      rw [show 20 - i = (19 - i) + 1 by omega, show 6 * ((19 - i) + 1) = 6 * (19 - i) + 6 by omega]
      rw [show 20 - (i + 1) = 19 - i by omega] at ih
      refine wp_iload_n (pc := 22) dX10_init_22 rfl rfl ?_
      refine wp_aload_n (pc := 23) dX10_init_23 rfl rfl ?_
      refine wp_get (pc := 24) dX10_init_24 fl_X10_11_11 ha rfl ?_
      refine wp_alen (k := 4) (pc := 27) (by decide) dX10_init_27 rc ?_
      refine wp_icmp_ge (pc := 28) (tgt := 50) dX10_init_28 (by decide) (fun z => absurd z (nI_ge (b := 20) hi (by decide))) (fun _ => ?_)
      refine wp_aload_n (pc := 31) dX10_init_31 rfl rfl ?_
      refine wp_get (pc := 32) dX10_init_32 fl_X10_11_11 ha rfl ?_
      refine wp_iload_n (pc := 35) dX10_init_35 rfl rfl ?_
      refine wp_newC (pc := 36) (rc := 19 - i) (rs := 6 * (19 - i)) (ci := 4) (fs := [.int 0, .int 0, .int 0, .int 0, .long 0, .long 0]) dX10_init_36 nw_X10_9 rfl nd_4 (fun x h xn xc xf => ?_)
      have hxa : x ≠ a := fun z => by rw [z, ha] at xn; cases xn
      have hxr : x ≠ r := fun z => by rw [z, rc] at xn; cases xn
      have hxm : ∀ t, t < i → x ≠ m t := fun t ht z => by rw [z, (hm t ht).2.1] at xn; cases xn
      have xn0 := (hf x hxa hxr hxm).symm.trans xn
      refine wp_dup (pc := 39) dX10_init_39 rfl ?_
      refine wc_NN (pc := 40) (μ2 := mX3_init) (rc := 19 - i) (rs := 6 * (19 - i)) [] dX10_init_40 rfl cn_X10_21 rfl ⟨(Nat.le_of_ble_eq_true rfl), (Nat.le_of_ble_eq_true rfl)⟩ (Nat.le_of_ble_eq_true rfl) (c_i3 l G _ xc) (fun h q => ?_)
      obtain ⟨xc, xf2⟩ := q
      have xf := fun q (hq : q ≠ x) => (xf2 q hq).trans (xf q hq)
      have ha := (xf a (Ne.symm hxa)).trans ha
      have rc := (xf r (Ne.symm hxr)).trans rc
      refine wp_aastC (pc := 43) (i := i) (Or.inr (Or.inl rfl)) dX10_init_43 rc ⟨rfl, hi, by decide⟩ xc cM4 (fun h hq1 hq2 => ?_)
      rw [lstF_add] at hq1
      refine wp_iinc (pc := 44) (v := _ + 1) (lv' := [_, _, _, _]) dX10_init_44 rfl rfl rfl rfl ?_
      refine wp_goto (pc := 47) (tgt := 22) dX10_init_47 (by decide) ?_
      refine wp_lv (ih h (fu m i x) ?_ hq1 ?_ ?_ ?_) (by simp [nI_1])
      · exact (hq2 a (Ne.symm hra)).trans ha
      · intro t ht
        by_cases et : t = i
        · subst et; rw [fu_s]; exact ⟨xn0, (hq2 x hxr).trans xc, hxr⟩
        · rw [fu_n _ _ et]
          obtain ⟨y1, y2, y3⟩ := hm t (by omega)
          exact ⟨y1, (hq2 _ y3).trans ((xf _ (Ne.symm (hxm t (by omega)))).trans y2), y3⟩
      · intro t t' ht ht' e
        by_cases et : t = i
        · by_cases et' : t' = i
          · rw [et, et']
          · subst et; rw [fu_s, fu_n _ _ et'] at e; exact absurd e (hxm t' (by omega))
        · by_cases et' : t' = i
          · subst et'; rw [fu_s, fu_n _ _ et] at e; exact absurd e.symm (hxm t (by omega))
          · rw [fu_n _ _ et, fu_n _ _ et'] at e; exact hmi t t' (by omega) (by omega) e
      · intro q h1 h2 h3
        have hqx : q ≠ x := fun z => h3 i (by omega) (by rw [fu_s]; exact z)
        rw [hq2 q h2, xf q hqx]
        exact hf q h1 h2 (fun t ht z => h3 t (by omega) (by rw [fu_n _ _ (by omega)]; exact z))
    · intro h m ha rc hm hmi hf
      refine wp_iload_n (pc := 22) dX10_init_22 rfl rfl ?_
      refine wp_aload_n (pc := 23) dX10_init_23 rfl rfl ?_
      refine wp_get (pc := 24) dX10_init_24 fl_X10_11_11 ha rfl ?_
      refine wp_alen (k := 4) (pc := 27) (by decide) dX10_init_27 rc ?_
      refine wp_icmp_ge (pc := 28) (tgt := 50) dX10_init_28 (by decide) (fun _ => ?_) (fun z => absurd (by decide) z)
      exact wp_vret (pc := 50) dX10_init_50 rfl (by rw [← hQ0]; exact ⟨rfl, r, m, ha, rn0, rc, hm, hmi, hf⟩)
  exact loop 0 (Nat.zero_le _) h (fun _ => 0) ha (by rw [lstF_0]; exact rc) (fun t ht => absurd ht (by omega)) (fun t _ ht => absurd ht (by omega)) (fun q h1 h2 _ => hf q h1 h2)
end K12
