/-! ===== the reference: its making ===== -/
def mZ : MS := (fun _ => 0, fun _ _ => 0, fun _ _ => 0)
def m0 (d : Int32) : MS := sS (sS mZ 27 (-1)) 0 d
def drf (d : Int32) : Int32 := if 0 ≤ d then (if d ≤ 100 then d else 100) else 0
def nF (V : Nat → Value) : List Value := [V 0, V 1, V 2, V 3, V 4, V 5, V 6, V 7, V 8, V 9, V 10, V 11, V 12, V 13, V 14, V 15, V 16, V 17, V 18, V 19, V 20, V 21, V 22, V 23, V 24, V 25, V 26, V 27, V 28, V 29, V 30, V 31, V 32, V 33, V 34, V 35, V 36, V 37, V 38, V 39, V 40, V 41, V 42, V 43, V 44, V 45, V 46, V 47, V 48, V 49, V 50, V 51, V 52, V 53, V 54, V 55, V 56, V 57, V 58]
theorem nF_map (V : Nat → Value) : nF V = (List.range 59).map V := rfl
theorem nF_congr {V W : Nat → Value} (h : ∀ k, k < 59 → V k = W k) : nF V = nF W := by
  rw [nF_map, nF_map]
  exact List.map_congr_left fun k hk => h k (List.mem_range.mp hk)
theorem nF_set (V : Nat → Value) (v : Value) {k : Nat} (hk : k < 59) : (nF V).set k v = nF (fu V k v) := by
  rw [nF_map, nF_map]
  apply List.ext_getElem
  · simp
  · intro j h1 h2
    rw [List.getElem_set]
    simp only [List.getElem_map, List.getElem_range, fu]
    by_cases e : k = j
    · simp [e]
    · simp [e, Ne.symm e]
theorem arr59 {k : Nat} (hk : isArr k = true) : k < 59 := by
  rcases Nat.lt_or_ge k 59 with h | h
  · exact h
  · exfalso
    unfold isArr arrK at hk
    split at hk <;> first | (exfalso; omega) | simp at hk
/-- the reference while it is made: the rows of the fields below n are there -/
def PI (x n : Nat) (V : Nat → Value) (M : MS) (h0 h : Hp) : Prop := h x = some (oB 13 (nF V)) ∧ (∀ k, k < 59 → isArr k = false → V k = .int (M.1 k)) ∧ (∀ k, isArr k = true → k < n → ∃ a, V k = .ref a ∧ h a = some (mA M k) ∧ a ≠ x ∧ h0 a = none) ∧ (∀ j k, isArr j = true → isArr k = true → j < n → k < n → V j = V k → j = k) ∧ ∀ a, a ≠ x → h0 a ≠ none → h a = h0 a
section M12
variable {l : Launch} {G : WG} {μ : MI} {Z : WZ} {pc : Nat} {lv : List (Option Value)} {st : List Value} {h h0 : Hp}
theorem pi_put {x n k idx rc rs : Nat} {V : Nat → Value} {M : MS} {v : Int32} (hd : decode (mC μ) pc = .ok (.putfield idx, 3)) (fl : FL (mY μ).cls idx k 13) (hf : isFin k 13 = false ∨ (isFin k 13 = true ∧ declOf k 13 = (mY μ).cls ∧ (mY μ).name = "<init>")) (hl9 : k < 59) (hka : isArr k = false) (hn9 : cl_ty 13 k = .int) (hP : PI x n V M h0 h)
    (kk : ∀ V h, PI x n V (sS M k v) h0 h → wp l G μ Z (pc + 3) lv st h rc rs) : wp l G μ Z pc lv (.int v :: .ref x :: st) h rc rs := by
  obtain ⟨h1, h2, h3, h4, h5⟩ := hP
  have ne : ∀ j, isArr j = true → j ≠ k := fun j hj e => by rw [e, hka] at hj; cases hj
  refine wp_put hd fl h1 hf hl9 (by rw [hn9]; rfl) (by rw [hn9]; rfl) (kk (fu V k (.int v)) _ ⟨by rw [up_s, nF_set V _ hl9], fun j hj ha => ?_, fun j hj hn => ?_, fun i j hi hj h6 h7 e => ?_, fun a ha hn => ?_⟩)
  · by_cases e : j = k
    · subst e; simp [fu, sS]
    · simp [fu, sS, e]; exact h2 j hj ha
  · obtain ⟨a, e1, e2, e3, e4⟩ := h3 j hj hn
    exact ⟨a, by simp [fu, ne j hj, e1], by rw [up_n _ e3, e2]; exact congrArg some (mA_congr rfl rfl), e3, e4⟩
  · simp only [fu, ne i hi, ne j hj, if_false] at e
    exact h4 i j hi hj h6 h7 e
  · rw [up_n _ ha]; exact h5 a ha hn
theorem pi_arr {x k n kd idx N rc rs : Nat} {c : Int32} {at0 : ArrayType} {V : Nat → Value} {M : MS} (hd : decode (mC μ) pc = .ok (.newarray at0, 2)) (hd2 : decode (mC μ) (pc + 2) = .ok (.putfield idx, 3)) (hw : Cond.arrayClass (newarray.typeOf at0) ∈ lw_tbl) (hk : (kd = 0 ∨ kd = 1 ∨ kd = 2) ∧ newarray.typeOf at0 = w_ty kd) (he : (kd = 0 ∧ mA mZ k = aI N (fun _ => 0)) ∨ (kd = 1 ∧ mA mZ k = aJ N (fun _ => 0)) ∨ (kd = 2 ∧ mA mZ k = aZ N (fun _ => 0))) (hn0 : c = nI N) (hN : N ≤ 65536) (fl : FL (mY μ).cls idx k 13) (hf : isFin k 13 = true ∧ declOf k 13 = (mY μ).cls ∧ (mY μ).name = "<init>") (hl9 : k < 59) (hnk : ∀ j, j < k + 1 → isArr j = true → j < n ∨ j = k) (hka : isArr k = true ∧ n ≤ k) (hn9 : ∀ a, narrow (cl_ty 13 k) (.ref a) = .ref a) (hfit : ∀ a, fits (cl_ty 13 k) (.ref a) = true) (hM : M.2 = mZ.2) (hP : PI x n V M h0 h)
    (kk : ∀ V h, PI x (k + 1) V M h0 h → wp l G μ Z (pc + 5) lv st h rc rs) : wp l G μ Z pc lv (.int c :: .ref x :: st) h (rc + 1) (rs + N) := by
  refine wp_newa hd hw hk he hn0 hN fun a ha _ => ?_
  obtain ⟨h1, h2, h3, h4, h5⟩ := hP
  have hmA : mA mZ k = mA M k := mA_congr (by rw [hM]) (by rw [hM])
  have hax : a ≠ x := fun e => by rw [e, h1] at ha; cases ha
  have h0a : h0 a = none := by
    rcases hh : h0 a with _ | e
    · rfl
    · have := h5 a hax (by rw [hh]; exact fun z => by cases z)
      rw [ha, hh] at this; cases this
  have hx : up h a (mA mZ k) x = some (oB 13 (nF V)) := by rw [up_n _ (Ne.symm hax)]; exact h1
  have key : ∀ j, isArr j = true → j < k + 1 → (j < n ∧ j ≠ k) ∨ j = k := fun j hj hjk => by
    rcases hnk j hjk hj with z | z
    · exact Or.inl ⟨z, by omega⟩
    · exact Or.inr z
  refine wp_put (h := up h a (mA mZ k)) hd2 fl hx (Or.inr hf) hl9 (hn9 a) (hfit a) (kk (fu V k (.ref a)) _ ⟨by rw [up_s, nF_set V _ hl9], fun j hj hja => ?_, fun j hj hn => ?_, fun i j hi hj h6 h7 e => ?_, fun b hb hn => ?_⟩)
  · have : j ≠ k := fun e => by rw [e, hka.1] at hja; cases hja
    simp [fu, this]; exact h2 j hj hja
  · rcases key j hj hn with ⟨z, ne⟩ | rfl
    · obtain ⟨b, e1, e2, e3, e4⟩ := h3 j hj z
      refine ⟨b, by simp [fu, ne, e1], ?_, e3, e4⟩
      rw [up_n _ e3, up_n _ (fun e => by rw [e, ha] at e2; cases e2)]
      exact e2
    · exact ⟨a, by simp [fu], by rw [up_n _ hax, up_s, hmA], hax, h0a⟩
  · rcases key i hi h6 with ⟨z, ne⟩ | rfl
    · rcases key j hj h7 with ⟨z2, ne2⟩ | rfl
      · simp only [fu, ne, ne2, if_false] at e
        exact h4 i j hi hj z z2 e
      · obtain ⟨b, e1, e2, -, -⟩ := h3 i hi z
        simp only [fu, ne, if_false, if_true, e1] at e
        cases e; rw [ha] at e2; cases e2
    · rcases key j hj h7 with ⟨z2, ne2⟩ | rfl
      · obtain ⟨b, e1, e2, -, -⟩ := h3 j hj z2
        simp only [fu, ne2, if_false, if_true, e1] at e
        cases e; rw [ha] at e2; cases e2
      · rfl
  · rw [up_n _ hb, up_n _ (fun e => by rw [e] at hn; exact hn h0a)]
    exact h5 b hb hn
end M12
def vRf (v : Value) : Nat := match v with
  | .ref a => a
  | _ => 0
theorem mF_nF (am : Nat → Nat) (M : MS) : mF am M = nF (fun k => if isArr k = true then .ref (am k) else .int (M.1 k)) := rfl
theorem PI.done {x : Nat} {V : Nat → Value} {M : MS} {h0 h : Hp} (hP : PI x 59 V M h0 h) : InM x (fun k => vRf (V k)) M h ∧ (∀ k, isArr k = true → h0 (vRf (V k)) = none) ∧ ∀ a, a ≠ x → h0 a ≠ none → h a = h0 a := by
  obtain ⟨h1, h2, h3, h4, h5⟩ := hP
  have hv : ∀ k, isArr k = true → V k = .ref (vRf (V k)) ∧ h (vRf (V k)) = some (mA M k) ∧ vRf (V k) ≠ x ∧ h0 (vRf (V k)) = none := fun k hk => by
    obtain ⟨a, e1, e2⟩ := h3 k hk (arr59 hk)
    rw [e1]
    exact ⟨rfl, e2⟩
  refine ⟨⟨?_, fun k hk => (hv k hk).2.1, fun k hk => (hv k hk).2.2.1, fun j k hj hk e => h4 j k hj hk (arr59 hj) (arr59 hk) ?_⟩, fun k hk => (hv k hk).2.2.2, h5⟩
  · rw [h1, mF_nF]
    refine congrArg (fun z => some (oB 13 z)) (nF_congr fun k hk => ?_)
    by_cases e : isArr k = true
    · rw [if_pos e]; exact (hv k e).1
    · rw [if_neg e]; exact h2 k hk (by simpa using e)
  · have e : vRf (V j) = vRf (V k) := e
    rw [(hv j hj).1, (hv k hk).1, e]
theorem wA0 : Cond.arrayClass (newarray.typeOf .int) ∈ lw_tbl := tb2 (List.mem_of_getElem? (i := 162) rfl)
theorem wA1 : Cond.arrayClass (newarray.typeOf .long) ∈ lw_tbl := tb1 (List.mem_of_getElem? (i := 89) rfl)
theorem wA2 : Cond.arrayClass (newarray.typeOf .boolean) ∈ lw_tbl := tb5 (List.mem_of_getElem? (i := 15) rfl)
def v0 (k : Nat) : Value := if isArr k = true then .null else .int 0
theorem arr58 {k : Nat} (hk : isArr k = true) : k < 58 := by
  have h := arr59 hk
  rcases Nat.lt_or_ge k 58 with z | z
  · exact z
  · rw [show k = 58 by omega] at hk; cases hk
theorem nF_v0 : nF v0 = [.int 0, .int 0, .int 0, .null, .null, .null, .int 0, .null, .null, .null, .null, .int 0, .null, .null, .null, .null, .null, .null, .null, .null, .null, .null, .null, .null, .null, .null, .null, .int 0, .int 0, .null, .null, .null, .null, .null, .null, .int 0, .null, .null, .null, .null, .null, .null, .null, .null, .null, .null, .int 0, .null, .null, .int 0, .int 0, .int 0, .int 0, .int 0, .null, .null, .null, .null, .int 0] := rfl
theorem ms_init (l : Launch) (G : WG) (x : Nat) (d : Int32) (h : Hp) (hx : h x = some (oB 13 [.int 0, .int 0, .int 0, .null, .null, .null, .int 0, .null, .null, .null, .null, .int 0, .null, .null, .null, .null, .null, .null, .null, .null, .null, .null, .null, .null, .null, .null, .null, .int 0, .int 0, .null, .null, .null, .null, .null, .null, .int 0, .null, .null, .null, .null, .null, .null, .null, .null, .null, .null, .int 0, .null, .null, .int 0, .int 0, .int 0, .int 0, .int 0, .null, .null, .null, .null, .int 0])) : Sp l G mX12_init [.ref x, .int d] h (fun w h' => w = none ∧ ∃ am : Nat → Nat, InM x am (m0 (drf d)) h' ∧ (∀ k, isArr k = true → h (am k) = none) ∧ ∀ a, a ≠ x → h a ≠ none → h' a = h a) := by
  refine Sp.intro (lv := [_, _]) (by decide) rfl (Nat.le_of_ble_eq_true rfl) ?_
  refine wp_aload_n (pc := 0) dX12_init_0 rfl rfl ?_
  refine wp_objInit (pc := 1) dX12_init_1 ob_X12_1 (Nat.le_of_ble_eq_true rfl) ⟨Nat.le_of_ble_eq_true rfl, Nat.le_of_ble_eq_true rfl⟩ ?_
  have hP : PI x 0 v0 mZ h h := ⟨by rw [nF_v0]; exact hx, fun k _ hk => by unfold v0; rw [hk]; rfl, fun k _ hk => absurd hk (Nat.not_lt_zero k), fun j k _ _ hj => absurd hj (Nat.not_lt_zero j), fun _ _ _ => rfl⟩
  generalize hQ0 : (fun (w : Option Value) (h' : Hp) => w = none ∧ ∃ am : Nat → Nat, InM x am (m0 (drf d)) h' ∧ (∀ k, isArr k = true → h (am k) = none) ∧ ∀ a, a ≠ x → h a ≠ none → h' a = h a) = Q0
  suffices main : ∀ h1, PI x 0 v0 mZ h h1 → wp l G mX12_init (zM G mX12_init Q0) 4 [some (.ref x), some (.int d)] [] h1 44 9213 from main h hP
  clear hP
  intro h1 hP
  refine wp_aload_n (pc := 4) dX12_init_4 rfl rfl ?_
  refine wp_iconst (pc := 5) (v := 5) dX12_init_5 (by decide) ?_
  refine pi_arr (pc := 6) (n := 0) (k := 3) (kd := 0) (N := 5) dX12_init_6 dX12_init_8 wA0 ⟨Or.inl rfl, rfl⟩ (Or.inl ⟨rfl, rfl⟩) rfl (by decide) fl_X12_7_13 ⟨rfl, rfl, rfl⟩ (by decide) (by decide) (by decide) (fun _ => rfl) (fun _ => rfl) (M := mZ) rfl hP (fun V h1 hP => ?_)
  refine wp_aload_n (pc := 11) dX12_init_11 rfl rfl ?_
  refine wp_iconst (pc := 12) (v := 5) dX12_init_12 (by decide) ?_
  refine pi_arr (pc := 13) (n := 4) (k := 4) (kd := 0) (N := 5) dX12_init_13 dX12_init_15 wA0 ⟨Or.inl rfl, rfl⟩ (Or.inl ⟨rfl, rfl⟩) rfl (by decide) fl_X12_13_13 ⟨rfl, rfl, rfl⟩ (by decide) (by decide) (by decide) (fun _ => rfl) (fun _ => rfl) (M := mZ) rfl hP (fun V h1 hP => ?_)
  refine wp_aload_n (pc := 18) dX12_init_18 rfl rfl ?_
  refine wp_iconst (pc := 19) (v := 5) dX12_init_19 (by decide) ?_
  refine pi_arr (pc := 20) (n := 5) (k := 5) (kd := 2) (N := 5) dX12_init_20 dX12_init_22 wA2 ⟨Or.inr (Or.inr rfl), rfl⟩ (Or.inr (Or.inr ⟨rfl, rfl⟩)) rfl (by decide) fl_X12_16_13 ⟨rfl, rfl, rfl⟩ (by decide) (by decide) (by decide) (fun _ => rfl) (fun _ => rfl) (M := mZ) rfl hP (fun V h1 hP => ?_)
  refine wp_aload_n (pc := 25) dX12_init_25 rfl rfl ?_
  refine wp_bipush (pc := 26) (v := 20) dX12_init_26 (by decide) ?_
  refine pi_arr (pc := 28) (n := 6) (k := 7) (kd := 0) (N := 20) dX12_init_28 dX12_init_30 wA0 ⟨Or.inl rfl, rfl⟩ (Or.inl ⟨rfl, rfl⟩) rfl (by decide) fl_X12_20_13 ⟨rfl, rfl, rfl⟩ (by decide) (by decide) (by decide) (fun _ => rfl) (fun _ => rfl) (M := mZ) rfl hP (fun V h1 hP => ?_)
  refine wp_aload_n (pc := 33) dX12_init_33 rfl rfl ?_
  refine wp_bipush (pc := 34) (v := 20) dX12_init_34 (by decide) ?_
  refine pi_arr (pc := 36) (n := 8) (k := 8) (kd := 0) (N := 20) dX12_init_36 dX12_init_38 wA0 ⟨Or.inl rfl, rfl⟩ (Or.inl ⟨rfl, rfl⟩) rfl (by decide) fl_X12_23_13 ⟨rfl, rfl, rfl⟩ (by decide) (by decide) (by decide) (fun _ => rfl) (fun _ => rfl) (M := mZ) rfl hP (fun V h1 hP => ?_)
  refine wp_aload_n (pc := 41) dX12_init_41 rfl rfl ?_
  refine wp_bipush (pc := 42) (v := 20) dX12_init_42 (by decide) ?_
  refine pi_arr (pc := 44) (n := 9) (k := 9) (kd := 0) (N := 20) dX12_init_44 dX12_init_46 wA0 ⟨Or.inl rfl, rfl⟩ (Or.inl ⟨rfl, rfl⟩) rfl (by decide) fl_X12_26_13 ⟨rfl, rfl, rfl⟩ (by decide) (by decide) (by decide) (fun _ => rfl) (fun _ => rfl) (M := mZ) rfl hP (fun V h1 hP => ?_)
  refine wp_aload_n (pc := 49) dX12_init_49 rfl rfl ?_
  refine wp_bipush (pc := 50) (v := 20) dX12_init_50 (by decide) ?_
  refine pi_arr (pc := 52) (n := 10) (k := 10) (kd := 2) (N := 20) dX12_init_52 dX12_init_54 wA2 ⟨Or.inr (Or.inr rfl), rfl⟩ (Or.inr (Or.inr ⟨rfl, rfl⟩)) rfl (by decide) fl_X12_29_13 ⟨rfl, rfl, rfl⟩ (by decide) (by decide) (by decide) (fun _ => rfl) (fun _ => rfl) (M := mZ) rfl hP (fun V h1 hP => ?_)
  refine wp_aload_n (pc := 57) dX12_init_57 rfl rfl ?_
  refine wp_bipush (pc := 58) (v := 20) dX12_init_58 (by decide) ?_
  refine pi_arr (pc := 60) (n := 11) (k := 12) (kd := 0) (N := 20) dX12_init_60 dX12_init_62 wA0 ⟨Or.inl rfl, rfl⟩ (Or.inl ⟨rfl, rfl⟩) rfl (by decide) fl_X12_32_13 ⟨rfl, rfl, rfl⟩ (by decide) (by decide) (by decide) (fun _ => rfl) (fun _ => rfl) (M := mZ) rfl hP (fun V h1 hP => ?_)
  refine wp_aload_n (pc := 65) dX12_init_65 rfl rfl ?_
  refine wp_bipush (pc := 66) (v := 20) dX12_init_66 (by decide) ?_
  refine pi_arr (pc := 68) (n := 13) (k := 13) (kd := 0) (N := 20) dX12_init_68 dX12_init_70 wA0 ⟨Or.inl rfl, rfl⟩ (Or.inl ⟨rfl, rfl⟩) rfl (by decide) fl_X12_35_13 ⟨rfl, rfl, rfl⟩ (by decide) (by decide) (by decide) (fun _ => rfl) (fun _ => rfl) (M := mZ) rfl hP (fun V h1 hP => ?_)
  refine wp_aload_n (pc := 73) dX12_init_73 rfl rfl ?_
  refine wp_bipush (pc := 74) (v := 20) dX12_init_74 (by decide) ?_
  refine pi_arr (pc := 76) (n := 14) (k := 14) (kd := 0) (N := 20) dX12_init_76 dX12_init_78 wA0 ⟨Or.inl rfl, rfl⟩ (Or.inl ⟨rfl, rfl⟩) rfl (by decide) fl_X12_38_13 ⟨rfl, rfl, rfl⟩ (by decide) (by decide) (by decide) (fun _ => rfl) (fun _ => rfl) (M := mZ) rfl hP (fun V h1 hP => ?_)
  refine wp_aload_n (pc := 81) dX12_init_81 rfl rfl ?_
  refine wp_bipush (pc := 82) (v := 20) dX12_init_82 (by decide) ?_
  refine pi_arr (pc := 84) (n := 15) (k := 15) (kd := 0) (N := 20) dX12_init_84 dX12_init_86 wA0 ⟨Or.inl rfl, rfl⟩ (Or.inl ⟨rfl, rfl⟩) rfl (by decide) fl_X12_41_13 ⟨rfl, rfl, rfl⟩ (by decide) (by decide) (by decide) (fun _ => rfl) (fun _ => rfl) (M := mZ) rfl hP (fun V h1 hP => ?_)
  refine wp_aload_n (pc := 89) dX12_init_89 rfl rfl ?_
  refine wp_bipush (pc := 90) (v := 20) dX12_init_90 (by decide) ?_
  refine pi_arr (pc := 92) (n := 16) (k := 16) (kd := 0) (N := 20) dX12_init_92 dX12_init_94 wA0 ⟨Or.inl rfl, rfl⟩ (Or.inl ⟨rfl, rfl⟩) rfl (by decide) fl_X12_44_13 ⟨rfl, rfl, rfl⟩ (by decide) (by decide) (by decide) (fun _ => rfl) (fun _ => rfl) (M := mZ) rfl hP (fun V h1 hP => ?_)
  refine wp_aload_n (pc := 97) dX12_init_97 rfl rfl ?_
  refine wp_sipush (pc := 98) (v := 160) dX12_init_98 (by decide) ?_
  refine pi_arr (pc := 101) (n := 17) (k := 17) (kd := 0) (N := 160) dX12_init_101 dX12_init_103 wA0 ⟨Or.inl rfl, rfl⟩ (Or.inl ⟨rfl, rfl⟩) rfl (by decide) fl_X12_47_13 ⟨rfl, rfl, rfl⟩ (by decide) (by decide) (by decide) (fun _ => rfl) (fun _ => rfl) (M := mZ) rfl hP (fun V h1 hP => ?_)
  refine wp_aload_n (pc := 106) dX12_init_106 rfl rfl ?_
  refine wp_bipush (pc := 107) (v := 20) dX12_init_107 (by decide) ?_
  refine pi_arr (pc := 109) (n := 18) (k := 18) (kd := 1) (N := 20) dX12_init_109 dX12_init_111 wA1 ⟨Or.inr (Or.inl rfl), rfl⟩ (Or.inr (Or.inl ⟨rfl, rfl⟩)) rfl (by decide) fl_X12_50_13 ⟨rfl, rfl, rfl⟩ (by decide) (by decide) (by decide) (fun _ => rfl) (fun _ => rfl) (M := mZ) rfl hP (fun V h1 hP => ?_)
  refine wp_aload_n (pc := 114) dX12_init_114 rfl rfl ?_
  refine wp_bipush (pc := 115) (v := 20) dX12_init_115 (by decide) ?_
  refine pi_arr (pc := 117) (n := 19) (k := 19) (kd := 1) (N := 20) dX12_init_117 dX12_init_119 wA1 ⟨Or.inr (Or.inl rfl), rfl⟩ (Or.inr (Or.inl ⟨rfl, rfl⟩)) rfl (by decide) fl_X12_54_13 ⟨rfl, rfl, rfl⟩ (by decide) (by decide) (by decide) (fun _ => rfl) (fun _ => rfl) (M := mZ) rfl hP (fun V h1 hP => ?_)
  refine wp_aload_n (pc := 122) dX12_init_122 rfl rfl ?_
  refine wp_bipush (pc := 123) (v := 20) dX12_init_123 (by decide) ?_
  refine pi_arr (pc := 125) (n := 20) (k := 20) (kd := 2) (N := 20) dX12_init_125 dX12_init_127 wA2 ⟨Or.inr (Or.inr rfl), rfl⟩ (Or.inr (Or.inr ⟨rfl, rfl⟩)) rfl (by decide) fl_X12_57_13 ⟨rfl, rfl, rfl⟩ (by decide) (by decide) (by decide) (fun _ => rfl) (fun _ => rfl) (M := mZ) rfl hP (fun V h1 hP => ?_)
  refine wp_aload_n (pc := 130) dX12_init_130 rfl rfl ?_
  refine wp_bipush (pc := 131) (v := 20) dX12_init_131 (by decide) ?_
  refine pi_arr (pc := 133) (n := 21) (k := 21) (kd := 0) (N := 20) dX12_init_133 dX12_init_135 wA0 ⟨Or.inl rfl, rfl⟩ (Or.inl ⟨rfl, rfl⟩) rfl (by decide) fl_X12_60_13 ⟨rfl, rfl, rfl⟩ (by decide) (by decide) (by decide) (fun _ => rfl) (fun _ => rfl) (M := mZ) rfl hP (fun V h1 hP => ?_)
  refine wp_aload_n (pc := 138) dX12_init_138 rfl rfl ?_
  refine wp_sipush (pc := 139) (v := 400) dX12_init_139 (by decide) ?_
  refine pi_arr (pc := 142) (n := 22) (k := 22) (kd := 0) (N := 400) dX12_init_142 dX12_init_144 wA0 ⟨Or.inl rfl, rfl⟩ (Or.inl ⟨rfl, rfl⟩) rfl (by decide) fl_X12_63_13 ⟨rfl, rfl, rfl⟩ (by decide) (by decide) (by decide) (fun _ => rfl) (fun _ => rfl) (M := mZ) rfl hP (fun V h1 hP => ?_)
  refine wp_aload_n (pc := 147) dX12_init_147 rfl rfl ?_
  refine wp_sipush (pc := 148) (v := 400) dX12_init_148 (by decide) ?_
  refine pi_arr (pc := 151) (n := 23) (k := 23) (kd := 0) (N := 400) dX12_init_151 dX12_init_153 wA0 ⟨Or.inl rfl, rfl⟩ (Or.inl ⟨rfl, rfl⟩) rfl (by decide) fl_X12_66_13 ⟨rfl, rfl, rfl⟩ (by decide) (by decide) (by decide) (fun _ => rfl) (fun _ => rfl) (M := mZ) rfl hP (fun V h1 hP => ?_)
  refine wp_aload_n (pc := 156) dX12_init_156 rfl rfl ?_
  refine wp_sipush (pc := 157) (v := 400) dX12_init_157 (by decide) ?_
  refine pi_arr (pc := 160) (n := 24) (k := 24) (kd := 0) (N := 400) dX12_init_160 dX12_init_162 wA0 ⟨Or.inl rfl, rfl⟩ (Or.inl ⟨rfl, rfl⟩) rfl (by decide) fl_X12_69_13 ⟨rfl, rfl, rfl⟩ (by decide) (by decide) (by decide) (fun _ => rfl) (fun _ => rfl) (M := mZ) rfl hP (fun V h1 hP => ?_)
  refine wp_aload_n (pc := 165) dX12_init_165 rfl rfl ?_
  refine wp_sipush (pc := 166) (v := 400) dX12_init_166 (by decide) ?_
  refine pi_arr (pc := 169) (n := 25) (k := 25) (kd := 1) (N := 400) dX12_init_169 dX12_init_171 wA1 ⟨Or.inr (Or.inl rfl), rfl⟩ (Or.inr (Or.inl ⟨rfl, rfl⟩)) rfl (by decide) fl_X12_72_13 ⟨rfl, rfl, rfl⟩ (by decide) (by decide) (by decide) (fun _ => rfl) (fun _ => rfl) (M := mZ) rfl hP (fun V h1 hP => ?_)
  refine wp_aload_n (pc := 174) dX12_init_174 rfl rfl ?_
  refine wp_sipush (pc := 175) (v := 400) dX12_init_175 (by decide) ?_
  refine pi_arr (pc := 178) (n := 26) (k := 26) (kd := 1) (N := 400) dX12_init_178 dX12_init_180 wA1 ⟨Or.inr (Or.inl rfl), rfl⟩ (Or.inr (Or.inl ⟨rfl, rfl⟩)) rfl (by decide) fl_X12_75_13 ⟨rfl, rfl, rfl⟩ (by decide) (by decide) (by decide) (fun _ => rfl) (fun _ => rfl) (M := mZ) rfl hP (fun V h1 hP => ?_)
  refine wp_aload_n (pc := 183) dX12_init_183 rfl rfl ?_
  refine wp_iconst (pc := 184) (v := (-1)) dX12_init_184 (by decide) ?_
  refine pi_put (pc := 185) dX12_init_185 fl_X12_78_13 (Or.inl rfl) (by decide) rfl rfl hP (fun V h1 hP => ?_)
  refine wp_aload_n (pc := 188) dX12_init_188 rfl rfl ?_
  refine wp_sipush (pc := 189) (v := 400) dX12_init_189 (by decide) ?_
  refine pi_arr (pc := 192) (n := 27) (k := 29) (kd := 2) (N := 400) dX12_init_192 dX12_init_194 wA2 ⟨Or.inr (Or.inr rfl), rfl⟩ (Or.inr (Or.inr ⟨rfl, rfl⟩)) rfl (by decide) fl_X12_82_13 ⟨rfl, rfl, rfl⟩ (by decide) (by decide) (by decide) (fun _ => rfl) (fun _ => rfl) (M := sS mZ 27 (-1)) rfl hP (fun V h1 hP => ?_)
  refine wp_aload_n (pc := 197) dX12_init_197 rfl rfl ?_
  refine wp_sipush (pc := 198) (v := 400) dX12_init_198 (by decide) ?_
  refine pi_arr (pc := 201) (n := 30) (k := 30) (kd := 0) (N := 400) dX12_init_201 dX12_init_203 wA0 ⟨Or.inl rfl, rfl⟩ (Or.inl ⟨rfl, rfl⟩) rfl (by decide) fl_X12_85_13 ⟨rfl, rfl, rfl⟩ (by decide) (by decide) (by decide) (fun _ => rfl) (fun _ => rfl) (M := sS mZ 27 (-1)) rfl hP (fun V h1 hP => ?_)
  refine wp_aload_n (pc := 206) dX12_init_206 rfl rfl ?_
  refine wp_sipush (pc := 207) (v := 400) dX12_init_207 (by decide) ?_
  refine pi_arr (pc := 210) (n := 31) (k := 31) (kd := 0) (N := 400) dX12_init_210 dX12_init_212 wA0 ⟨Or.inl rfl, rfl⟩ (Or.inl ⟨rfl, rfl⟩) rfl (by decide) fl_X12_88_13 ⟨rfl, rfl, rfl⟩ (by decide) (by decide) (by decide) (fun _ => rfl) (fun _ => rfl) (M := sS mZ 27 (-1)) rfl hP (fun V h1 hP => ?_)
  refine wp_aload_n (pc := 215) dX12_init_215 rfl rfl ?_
  refine wp_sipush (pc := 216) (v := 400) dX12_init_216 (by decide) ?_
  refine pi_arr (pc := 219) (n := 32) (k := 32) (kd := 0) (N := 400) dX12_init_219 dX12_init_221 wA0 ⟨Or.inl rfl, rfl⟩ (Or.inl ⟨rfl, rfl⟩) rfl (by decide) fl_X12_91_13 ⟨rfl, rfl, rfl⟩ (by decide) (by decide) (by decide) (fun _ => rfl) (fun _ => rfl) (M := sS mZ 27 (-1)) rfl hP (fun V h1 hP => ?_)
  refine wp_aload_n (pc := 224) dX12_init_224 rfl rfl ?_
  refine wp_sipush (pc := 225) (v := 400) dX12_init_225 (by decide) ?_
  refine pi_arr (pc := 228) (n := 33) (k := 33) (kd := 1) (N := 400) dX12_init_228 dX12_init_230 wA1 ⟨Or.inr (Or.inl rfl), rfl⟩ (Or.inr (Or.inl ⟨rfl, rfl⟩)) rfl (by decide) fl_X12_94_13 ⟨rfl, rfl, rfl⟩ (by decide) (by decide) (by decide) (fun _ => rfl) (fun _ => rfl) (M := sS mZ 27 (-1)) rfl hP (fun V h1 hP => ?_)
  refine wp_aload_n (pc := 233) dX12_init_233 rfl rfl ?_
  refine wp_sipush (pc := 234) (v := 400) dX12_init_234 (by decide) ?_
  refine pi_arr (pc := 237) (n := 34) (k := 34) (kd := 1) (N := 400) dX12_init_237 dX12_init_239 wA1 ⟨Or.inr (Or.inl rfl), rfl⟩ (Or.inr (Or.inl ⟨rfl, rfl⟩)) rfl (by decide) fl_X12_97_13 ⟨rfl, rfl, rfl⟩ (by decide) (by decide) (by decide) (fun _ => rfl) (fun _ => rfl) (M := sS mZ 27 (-1)) rfl hP (fun V h1 hP => ?_)
  refine wp_aload_n (pc := 242) dX12_init_242 rfl rfl ?_
  refine wp_sipush (pc := 243) (v := 400) dX12_init_243 (by decide) ?_
  refine pi_arr (pc := 246) (n := 35) (k := 36) (kd := 0) (N := 400) dX12_init_246 dX12_init_248 wA0 ⟨Or.inl rfl, rfl⟩ (Or.inl ⟨rfl, rfl⟩) rfl (by decide) fl_X12_100_13 ⟨rfl, rfl, rfl⟩ (by decide) (by decide) (by decide) (fun _ => rfl) (fun _ => rfl) (M := sS mZ 27 (-1)) rfl hP (fun V h1 hP => ?_)
  refine wp_aload_n (pc := 251) dX12_init_251 rfl rfl ?_
  refine wp_sipush (pc := 252) (v := 400) dX12_init_252 (by decide) ?_
  refine pi_arr (pc := 255) (n := 37) (k := 37) (kd := 0) (N := 400) dX12_init_255 dX12_init_257 wA0 ⟨Or.inl rfl, rfl⟩ (Or.inl ⟨rfl, rfl⟩) rfl (by decide) fl_X12_103_13 ⟨rfl, rfl, rfl⟩ (by decide) (by decide) (by decide) (fun _ => rfl) (fun _ => rfl) (M := sS mZ 27 (-1)) rfl hP (fun V h1 hP => ?_)
  refine wp_aload_n (pc := 260) dX12_init_260 rfl rfl ?_
  refine wp_sipush (pc := 261) (v := 400) dX12_init_261 (by decide) ?_
  refine pi_arr (pc := 264) (n := 38) (k := 38) (kd := 0) (N := 400) dX12_init_264 dX12_init_266 wA0 ⟨Or.inl rfl, rfl⟩ (Or.inl ⟨rfl, rfl⟩) rfl (by decide) fl_X12_106_13 ⟨rfl, rfl, rfl⟩ (by decide) (by decide) (by decide) (fun _ => rfl) (fun _ => rfl) (M := sS mZ 27 (-1)) rfl hP (fun V h1 hP => ?_)
  refine wp_aload_n (pc := 269) dX12_init_269 rfl rfl ?_
  refine wp_sipush (pc := 270) (v := 400) dX12_init_270 (by decide) ?_
  refine pi_arr (pc := 273) (n := 39) (k := 39) (kd := 0) (N := 400) dX12_init_273 dX12_init_275 wA0 ⟨Or.inl rfl, rfl⟩ (Or.inl ⟨rfl, rfl⟩) rfl (by decide) fl_X12_109_13 ⟨rfl, rfl, rfl⟩ (by decide) (by decide) (by decide) (fun _ => rfl) (fun _ => rfl) (M := sS mZ 27 (-1)) rfl hP (fun V h1 hP => ?_)
  refine wp_aload_n (pc := 278) dX12_init_278 rfl rfl ?_
  refine wp_sipush (pc := 279) (v := 400) dX12_init_279 (by decide) ?_
  refine pi_arr (pc := 282) (n := 40) (k := 40) (kd := 0) (N := 400) dX12_init_282 dX12_init_284 wA0 ⟨Or.inl rfl, rfl⟩ (Or.inl ⟨rfl, rfl⟩) rfl (by decide) fl_X12_112_13 ⟨rfl, rfl, rfl⟩ (by decide) (by decide) (by decide) (fun _ => rfl) (fun _ => rfl) (M := sS mZ 27 (-1)) rfl hP (fun V h1 hP => ?_)
  refine wp_aload_n (pc := 287) dX12_init_287 rfl rfl ?_
  refine wp_sipush (pc := 288) (v := 400) dX12_init_288 (by decide) ?_
  refine pi_arr (pc := 291) (n := 41) (k := 41) (kd := 0) (N := 400) dX12_init_291 dX12_init_293 wA0 ⟨Or.inl rfl, rfl⟩ (Or.inl ⟨rfl, rfl⟩) rfl (by decide) fl_X12_115_13 ⟨rfl, rfl, rfl⟩ (by decide) (by decide) (by decide) (fun _ => rfl) (fun _ => rfl) (M := sS mZ 27 (-1)) rfl hP (fun V h1 hP => ?_)
  refine wp_aload_n (pc := 296) dX12_init_296 rfl rfl ?_
  refine wp_sipush (pc := 297) (v := 400) dX12_init_297 (by decide) ?_
  refine pi_arr (pc := 300) (n := 42) (k := 42) (kd := 0) (N := 400) dX12_init_300 dX12_init_302 wA0 ⟨Or.inl rfl, rfl⟩ (Or.inl ⟨rfl, rfl⟩) rfl (by decide) fl_X12_118_13 ⟨rfl, rfl, rfl⟩ (by decide) (by decide) (by decide) (fun _ => rfl) (fun _ => rfl) (M := sS mZ 27 (-1)) rfl hP (fun V h1 hP => ?_)
  refine wp_aload_n (pc := 305) dX12_init_305 rfl rfl ?_
  refine wp_sipush (pc := 306) (v := 400) dX12_init_306 (by decide) ?_
  refine pi_arr (pc := 309) (n := 43) (k := 43) (kd := 0) (N := 400) dX12_init_309 dX12_init_311 wA0 ⟨Or.inl rfl, rfl⟩ (Or.inl ⟨rfl, rfl⟩) rfl (by decide) fl_X12_121_13 ⟨rfl, rfl, rfl⟩ (by decide) (by decide) (by decide) (fun _ => rfl) (fun _ => rfl) (M := sS mZ 27 (-1)) rfl hP (fun V h1 hP => ?_)
  refine wp_aload_n (pc := 314) dX12_init_314 rfl rfl ?_
  refine wp_sipush (pc := 315) (v := 400) dX12_init_315 (by decide) ?_
  refine pi_arr (pc := 318) (n := 44) (k := 44) (kd := 1) (N := 400) dX12_init_318 dX12_init_320 wA1 ⟨Or.inr (Or.inl rfl), rfl⟩ (Or.inr (Or.inl ⟨rfl, rfl⟩)) rfl (by decide) fl_X12_124_13 ⟨rfl, rfl, rfl⟩ (by decide) (by decide) (by decide) (fun _ => rfl) (fun _ => rfl) (M := sS mZ 27 (-1)) rfl hP (fun V h1 hP => ?_)
  refine wp_aload_n (pc := 323) dX12_init_323 rfl rfl ?_
  refine wp_sipush (pc := 324) (v := 400) dX12_init_324 (by decide) ?_
  refine pi_arr (pc := 327) (n := 45) (k := 45) (kd := 1) (N := 400) dX12_init_327 dX12_init_329 wA1 ⟨Or.inr (Or.inl rfl), rfl⟩ (Or.inr (Or.inl ⟨rfl, rfl⟩)) rfl (by decide) fl_X12_127_13 ⟨rfl, rfl, rfl⟩ (by decide) (by decide) (by decide) (fun _ => rfl) (fun _ => rfl) (M := sS mZ 27 (-1)) rfl hP (fun V h1 hP => ?_)
  refine wp_aload_n (pc := 332) dX12_init_332 rfl rfl ?_
  refine wp_bipush (pc := 333) (v := 120) dX12_init_333 (by decide) ?_
  refine pi_arr (pc := 335) (n := 46) (k := 47) (kd := 1) (N := 120) dX12_init_335 dX12_init_337 wA1 ⟨Or.inr (Or.inl rfl), rfl⟩ (Or.inr (Or.inl ⟨rfl, rfl⟩)) rfl (by decide) fl_X12_130_13 ⟨rfl, rfl, rfl⟩ (by decide) (by decide) (by decide) (fun _ => rfl) (fun _ => rfl) (M := sS mZ 27 (-1)) rfl hP (fun V h1 hP => ?_)
  refine wp_aload_n (pc := 340) dX12_init_340 rfl rfl ?_
  refine wp_bipush (pc := 341) (v := 120) dX12_init_341 (by decide) ?_
  refine pi_arr (pc := 343) (n := 48) (k := 48) (kd := 1) (N := 120) dX12_init_343 dX12_init_345 wA1 ⟨Or.inr (Or.inl rfl), rfl⟩ (Or.inr (Or.inl ⟨rfl, rfl⟩)) rfl (by decide) fl_X12_133_13 ⟨rfl, rfl, rfl⟩ (by decide) (by decide) (by decide) (fun _ => rfl) (fun _ => rfl) (M := sS mZ 27 (-1)) rfl hP (fun V h1 hP => ?_)
  refine wp_aload_n (pc := 348) dX12_init_348 rfl rfl ?_
  refine wp_bipush (pc := 349) (v := 6) dX12_init_349 (by decide) ?_
  refine pi_arr (pc := 351) (n := 49) (k := 54) (kd := 0) (N := 6) dX12_init_351 dX12_init_353 wA0 ⟨Or.inl rfl, rfl⟩ (Or.inl ⟨rfl, rfl⟩) rfl (by decide) fl_X12_136_13 ⟨rfl, rfl, rfl⟩ (by decide) (by decide) (by decide) (fun _ => rfl) (fun _ => rfl) (M := sS mZ 27 (-1)) rfl hP (fun V h1 hP => ?_)
  refine wp_aload_n (pc := 356) dX12_init_356 rfl rfl ?_
  refine wp_bipush (pc := 357) (v := 6) dX12_init_357 (by decide) ?_
  refine pi_arr (pc := 359) (n := 55) (k := 55) (kd := 0) (N := 6) dX12_init_359 dX12_init_361 wA0 ⟨Or.inl rfl, rfl⟩ (Or.inl ⟨rfl, rfl⟩) rfl (by decide) fl_X12_139_13 ⟨rfl, rfl, rfl⟩ (by decide) (by decide) (by decide) (fun _ => rfl) (fun _ => rfl) (M := sS mZ 27 (-1)) rfl hP (fun V h1 hP => ?_)
  refine wp_aload_n (pc := 364) dX12_init_364 rfl rfl ?_
  refine wp_bipush (pc := 365) (v := 6) dX12_init_365 (by decide) ?_
  refine pi_arr (pc := 367) (n := 56) (k := 56) (kd := 0) (N := 6) dX12_init_367 dX12_init_369 wA0 ⟨Or.inl rfl, rfl⟩ (Or.inl ⟨rfl, rfl⟩) rfl (by decide) fl_X12_142_13 ⟨rfl, rfl, rfl⟩ (by decide) (by decide) (by decide) (fun _ => rfl) (fun _ => rfl) (M := sS mZ 27 (-1)) rfl hP (fun V h1 hP => ?_)
  refine wp_aload_n (pc := 372) dX12_init_372 rfl rfl ?_
  refine wp_bipush (pc := 373) (v := 120) dX12_init_373 (by decide) ?_
  refine pi_arr (pc := 375) (n := 57) (k := 57) (kd := 1) (N := 120) dX12_init_375 dX12_init_377 wA1 ⟨Or.inr (Or.inl rfl), rfl⟩ (Or.inr (Or.inl ⟨rfl, rfl⟩)) rfl (by decide) fl_X12_145_13 ⟨rfl, rfl, rfl⟩ (by decide) (by decide) (by decide) (fun _ => rfl) (fun _ => rfl) (M := sS mZ 27 (-1)) rfl hP (fun V h1 hP => ?_)
  have hP : PI x 59 V (sS mZ 27 (-1)) h h1 := ⟨hP.1, hP.2.1, fun k hk _ => hP.2.2.1 k hk (arr58 hk), fun j k hj hk _ _ => hP.2.2.2.1 j k hj hk (arr58 hj) (arr58 hk), hP.2.2.2.2⟩
  refine wp_aload_n (pc := 380) dX12_init_380 rfl rfl ?_
  refine wp_iload_n (pc := 381) dX12_init_381 rfl rfl ?_
  refine wp_if_ge (pc := 382) (tgt := 389) dX12_init_382 (by decide) (fun c382 => ?_) (fun c382 => ?_)
  · skip
    refine wp_iload_n (pc := 389) dX12_init_389 rfl rfl ?_
    refine wp_bipush (pc := 390) (v := 100) dX12_init_390 (by decide) ?_
    refine wp_icmp_le (pc := 392) (tgt := 400) dX12_init_392 (by decide) (fun c392 => ?_) (fun c392 => ?_)
    · skip
      refine wp_iload_n (pc := 400) dX12_init_400 rfl rfl ?_
      refine pi_put (pc := 401) dX12_init_401 fl_X12_148_13 (Or.inr ⟨rfl, rfl, rfl⟩) (by decide) rfl rfl hP (fun V h1 hP => ?_)
      exact wp_vret (pc := 404) dX12_init_404 rfl (by rw [← hQ0]; exact ⟨rfl, _, PI.done (M := m0 (drf d)) (by unfold drf; simp only [eq_true c382, eq_true c392, if_true, if_false, Bool.true_eq_false, Bool.false_eq_true, reduceIte, reduceCtorEq, Bool.not_true, Bool.not_false, true_and, and_true, and_false, false_and, or_true, true_or, or_false, false_or, not_true_eq_false, not_false_eq_true]; exact hP)⟩)
    · skip
      refine wp_bipush (pc := 395) (v := 100) dX12_init_395 (by decide) ?_
      refine wp_goto (pc := 397) (tgt := 401) dX12_init_397 (by decide) ?_
      refine pi_put (pc := 401) dX12_init_401 fl_X12_148_13 (Or.inr ⟨rfl, rfl, rfl⟩) (by decide) rfl rfl hP (fun V h1 hP => ?_)
      exact wp_vret (pc := 404) dX12_init_404 rfl (by rw [← hQ0]; exact ⟨rfl, _, PI.done (M := m0 (drf d)) (by unfold drf; simp only [eq_true c382, eq_false c392, if_true, if_false, Bool.true_eq_false, Bool.false_eq_true, reduceIte, reduceCtorEq, Bool.not_true, Bool.not_false, true_and, and_true, and_false, false_and, or_true, true_or, or_false, false_or, not_true_eq_false, not_false_eq_true]; exact hP)⟩)
  · skip
    refine wp_iconst (pc := 385) (v := 0) dX12_init_385 (by decide) ?_
    refine wp_goto (pc := 386) (tgt := 401) dX12_init_386 (by decide) ?_
    refine pi_put (pc := 401) dX12_init_401 fl_X12_148_13 (Or.inr ⟨rfl, rfl, rfl⟩) (by decide) rfl rfl hP (fun V h1 hP => ?_)
    exact wp_vret (pc := 404) dX12_init_404 rfl (by rw [← hQ0]; exact ⟨rfl, _, PI.done (M := m0 (drf d)) (by unfold drf; simp only [eq_false c382, if_true, if_false, Bool.true_eq_false, Bool.false_eq_true, reduceIte, reduceCtorEq, Bool.not_true, Bool.not_false, true_and, and_true, and_false, false_and, or_true, true_or, or_false, false_or, not_true_eq_false, not_false_eq_true]; exact hP)⟩)
