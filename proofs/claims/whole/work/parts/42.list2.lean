/-! ===== ArrayList: add, remove, its making ===== -/
/-- a putfield, the heap behind it by a name -/
theorem wp_putC {l : Launch} {G : WG} {μ : MI} {Z : WZ} {pc : Nat} {lv : List (Option Value)} {st : List Value} {h : Hp} {rc rs : Nat} {a ci k idx : Nat} {fs fs' : List Value} {v : Value} (hd : decode (mC μ) pc = .ok (.putfield idx, 3)) (fl : FL (mY μ).cls idx k ci) (hc : h a = some (oB ci fs)) (hf : isFin k ci = false ∨ (isFin k ci = true ∧ declOf k ci = (mY μ).cls ∧ (mY μ).name = "<init>")) (hl9 : k < fs.length) (hn9 : narrow (cl_ty ci k) v = v) (hfit : fits (cl_ty ci k) v = true) (he : fs.set k v = fs') (kk : ∀ h' : Hp, h' a = some (oB ci fs') → (∀ q, q ≠ a → h' q = h q) → wp l G μ Z (pc + 3) lv st h' rc rs) : wp l G μ Z pc lv (v :: .ref a :: st) h rc rs :=
  wp_put hd fl hc hf hl9 hn9 hfit (kk _ (by rw [up_s, he]) (fun q hq => up_n _ hq))
section JR
variable (l : Launch) (G : WG)
theorem j_add {a d n cap : Nat} {mc : Int32} {el : Nat → Nat} {e ce : Nat} {fe : List Value} (h : Hp) (ha : h a = some (oB 0 [.int mc, .ref d, .int (nI n)])) (hd0 : h d = some (aR 3 cap (lstF n el))) (hc0 : cap = 0 → d = gE G) (hn : n ≤ cap) (hn4 : n < 400) (hc6 : cap ≤ 600) (he : h e = some (oB ce fe)) (hce : canSt 3 ce) (hel : ∀ i, i < n → isO h (el i)) : SpV l G mJx4a65c_add_9ea2d [.ref a, .ref e] h (fun r h' => r = .int 1 ∧ ∃ b N, ((b = d ∧ N = cap ∧ n < cap) ∨ (h b = none ∧ n < N ∧ N ≤ 600)) ∧ h' b = some (aR 3 N (lstF (n + 1) (fu el n e))) ∧ h' a = some (oB 0 [.int (mc + 1), .ref b, .int (nI (n + 1))]) ∧ ∀ q, q ≠ a → q ≠ b → h' q = h q) := by
  refine Sp.intro (lv := [_, _]) (by decide) rfl (Nat.le_of_ble_eq_true rfl) ?_
  have hne : d ≠ a := fun z => by rw [z, ha] at hd0; cases hd0
  refine wp_aload_n (pc := 0) dJx4a65c_add_9ea2d_0 rfl rfl ?_
  refine wp_dup (pc := 1) dJx4a65c_add_9ea2d_1 rfl ?_
  refine wp_get (pc := 2) dJx4a65c_add_9ea2d_2 fl_Jx4a65c_63_0 ha rfl ?_
  refine wp_iconst (pc := 5) (v := 1) dJx4a65c_add_9ea2d_5 (by decide) ?_
  refine wp_iadd (pc := 6) dJx4a65c_add_9ea2d_6 ?_
  refine wp_putC (pc := 7) dJx4a65c_add_9ea2d_7 fl_Jx4a65c_63_0 ha (Or.inl rfl) (Nat.le_of_ble_eq_true rfl) rfl rfl (fs' := [.int (mc + 1), .ref d, .int (nI n)]) rfl (fun h1 ha1 hfr => ?_)
  have hd1 : h1 d = some (aR 3 cap (lstF n el)) := by rw [hfr d hne]; exact hd0
  have he1 : ∃ f1, h1 e = some (oB ce f1) := by
    by_cases z : e = a
    · subst z; rw [ha] at he; cases he; exact ⟨_, ha1⟩
    · exact ⟨fe, by rw [hfr e z]; exact he⟩
  obtain ⟨f1, he1⟩ := he1
  have hel1 : ∀ i, i < n → isO h1 (el i) := fun i hi => by
    obtain ⟨ci, fs, k1, k2⟩ := hel i hi
    by_cases z : el i = a
    · rw [z] at k1 ⊢; rw [ha] at k1; cases k1; exact ⟨_, _, ha1, k2⟩
    · exact ⟨ci, fs, by rw [hfr _ z]; exact k1, k2⟩
  refine wp_aload_n (pc := 10) dJx4a65c_add_9ea2d_10 rfl rfl ?_
  refine wp_aload_n (pc := 11) dJx4a65c_add_9ea2d_11 rfl rfl ?_
  refine wp_aload_n (pc := 12) dJx4a65c_add_9ea2d_12 rfl rfl ?_
  refine wp_get (pc := 13) dJx4a65c_add_9ea2d_13 fl_Jx4a65c_9_0 ha1 rfl ?_
  refine wp_aload_n (pc := 16) dJx4a65c_add_9ea2d_16 rfl rfl ?_
  refine wp_get (pc := 17) dJx4a65c_add_9ea2d_17 fl_Jx4a65c_48_0 ha1 rfl ?_
  refine wc_VN (pc := 20) (μ2 := mJx4a65c_add_72be8) (rc := 0) (rs := 0) [_, _, _] dJx4a65c_add_9ea2d_20 rfl ha1 rfl cv_Jx4a65c_131_0 rfl ⟨(Nat.le_of_ble_eq_true rfl), (Nat.le_of_ble_eq_true rfl)⟩ (Nat.le_of_ble_eq_true rfl) (j_add3 l G _ ha1 hd1 hc0 hn hn4 hc6 he1 hce hel1) (fun h q => ?_)
  obtain ⟨b, N, q1, q2, q3, q4⟩ := q
  refine wp_iconst (pc := 23) (v := 1) dJx4a65c_add_9ea2d_23 (by decide) ?_
  exact wp_zret (pc := 24) dJx4a65c_add_9ea2d_24 rfl (Or.inr rfl) ⟨_, rfl, rfl, b, N, q1.imp id (fun z => ⟨by rw [← hfr b (fun y => by rw [y, ha1] at z; cases z.1)]; exact z.1, z.2⟩), q2, q3, fun q k1 k2 => by rw [q4 q k1 k2]; exact hfr q k1⟩
theorem j_fastRemove {a d n cap : Nat} {mc : Int32} {el : Nat → Nat} {i : Nat} (h : Hp) (ha : h a = some (oB 0 [.int mc, .ref d, .int (nI n)])) (hd0 : h d = some (aR 3 cap (lstF n el))) (hi : i < n) (hn : n ≤ cap) (hc6 : cap ≤ 600) (hel : ∀ i, i < n → isO h (el i)) : SpN l G mJx4a65c_fastRemove_b59b0 [.ref a, .ref d, .int (nI i)] h (fun h' => h' d = some (aR 3 cap (lstF (n - 1) (shl el i))) ∧ h' a = some (oB 0 [.int (mc + 1), .ref d, .int (nI (n - 1))]) ∧ ∀ q, q ≠ a → q ≠ d → h' q = h q) := by
  refine Sp.intro (lv := [_, _, _, _]) (by decide) rfl (Nat.le_of_ble_eq_true rfl) ?_
  have hne : d ≠ a := fun z => by rw [z, ha] at hd0; cases hd0
  refine wp_aload_n (pc := 0) dJx4a65c_fastRemove_b59b0_0 rfl rfl ?_
  refine wp_dup (pc := 1) dJx4a65c_fastRemove_b59b0_1 rfl ?_
  refine wp_get (pc := 2) dJx4a65c_fastRemove_b59b0_2 fl_Jx4a65c_63_0 ha rfl ?_
  refine wp_iconst (pc := 5) (v := 1) dJx4a65c_fastRemove_b59b0_5 (by decide) ?_
  refine wp_iadd (pc := 6) dJx4a65c_fastRemove_b59b0_6 ?_
  refine wp_putC (pc := 7) dJx4a65c_fastRemove_b59b0_7 fl_Jx4a65c_63_0 ha (Or.inl rfl) (Nat.le_of_ble_eq_true rfl) rfl rfl (fs' := [.int (mc + 1), .ref d, .int (nI n)]) rfl (fun h1 ha1 hfr => ?_)
  have hd1 : h1 d = some (aR 3 cap (lstF n el)) := by rw [hfr d hne]; exact hd0
  have hel1 : ∀ i, i < n → isO h1 (el i) := fun i hi => by
    obtain ⟨ci, fs, k1, k2⟩ := hel i hi
    by_cases z : el i = a
    · rw [z] at k1 ⊢; rw [ha] at k1; cases k1; exact ⟨_, _, ha1, k2⟩
    · exact ⟨ci, fs, by rw [hfr _ z]; exact k1, k2⟩
  refine wp_aload_n (pc := 10) dJx4a65c_fastRemove_b59b0_10 rfl rfl ?_
  refine wp_get (pc := 11) dJx4a65c_fastRemove_b59b0_11 fl_Jx4a65c_48_0 ha1 rfl ?_
  refine wp_iconst (pc := 14) (v := 1) dJx4a65c_fastRemove_b59b0_14 (by decide) ?_
  refine wp_isub (pc := 15) dJx4a65c_fastRemove_b59b0_15 ?_
  rw [show nI n - 1 = nI (n - 1) by obtain ⟨m, rfl⟩ : ∃ m, n = m + 1 := ⟨n - 1, by omega⟩; exact nI_pred m]
  refine wp_dup (pc := 16) dJx4a65c_fastRemove_b59b0_16 rfl ?_
  refine wp_istore_n (pc := 17) (lv' := [_, _, _, _]) dJx4a65c_fastRemove_b59b0_17 rfl (Nat.le_of_ble_eq_true rfl) rfl rfl ?_
  refine wp_iload_n (pc := 18) dJx4a65c_fastRemove_b59b0_18 rfl rfl ?_
  refine wp_icmp_le (pc := 19) (tgt := 34) dJx4a65c_fastRemove_b59b0_19 (by decide) (fun c19 => ?_) (fun c19 => ?_)
  · have c19 : n - 1 ≤ i := (nI_leI (by omega) (by omega)).mp c19
    refine wp_aload_n (pc := 34) dJx4a65c_fastRemove_b59b0_34 rfl rfl ?_
    refine wp_aload_n (pc := 35) dJx4a65c_fastRemove_b59b0_35 rfl rfl ?_
    refine wp_iload_n (pc := 36) dJx4a65c_fastRemove_b59b0_36 rfl rfl ?_
    refine wp_dup_x1 (pc := 37) dJx4a65c_fastRemove_b59b0_37 rfl rfl ?_
    refine wp_put (pc := 38) dJx4a65c_fastRemove_b59b0_38 fl_Jx4a65c_48_0 ha1 (Or.inl rfl) (Nat.le_of_ble_eq_true rfl) rfl rfl ?_
    refine wp_null (pc := 41) dJx4a65c_fastRemove_b59b0_41 ?_
    refine wp_aastN (pc := 42) (i := n - 1) dJx4a65c_fastRemove_b59b0_42 (by rw [up_n _ hne]; exact hd1) ⟨rfl, by omega, by omega⟩ ?_
    rw [show fu (lstF n el) (n - 1) none = lstF (n - 1) (shl el i) by rw [show n - 1 = i by omega, lstF_rem0 el (by omega), show n - 1 = i by omega]]
    exact wp_vret (pc := 43) dJx4a65c_fastRemove_b59b0_43 rfl ⟨rfl, by rw [up_s], by rw [up_n _ (Ne.symm hne), up_s]; rfl, fun q k1 k2 => by rw [up_n _ k2, up_n _ k1]; exact hfr q k1⟩
  · have c19 : i < n - 1 := Nat.lt_of_not_le (fun z => c19 (nI_le z (by omega)))
    have hsz : nI (n - 1) - nI i = nI (n - 1 - i) := by
      obtain ⟨m, hm⟩ : ∃ m, n - 1 = m + i := ⟨n - 1 - i, by omega⟩
      rw [hm, nI_sub]; congr 1; omega
    refine wp_aload_n (pc := 22) dJx4a65c_fastRemove_b59b0_22 rfl rfl ?_
    refine wp_iload_n (pc := 23) dJx4a65c_fastRemove_b59b0_23 rfl rfl ?_
    refine wp_iconst (pc := 24) (v := 1) dJx4a65c_fastRemove_b59b0_24 (by decide) ?_
    refine wp_iadd (pc := 25) dJx4a65c_fastRemove_b59b0_25 ?_
    refine wp_aload_n (pc := 26) dJx4a65c_fastRemove_b59b0_26 rfl rfl ?_
    refine wp_iload_n (pc := 27) dJx4a65c_fastRemove_b59b0_27 rfl rfl ?_
    refine wp_iload_n (pc := 28) dJx4a65c_fastRemove_b59b0_28 rfl rfl ?_
    refine wp_iload_n (pc := 29) dJx4a65c_fastRemove_b59b0_29 rfl rfl ?_
    refine wp_isub (pc := 30) dJx4a65c_fastRemove_b59b0_30 ?_
    refine wp_copy (pc := 31) (sp := i + 1) (dp := i) (n := n - 1 - i) (n0 := cap) (n1 := cap) (f := lstF n el) dJx4a65c_fastRemove_b59b0_31 ac_Jx4a65c_112 hd1 hd1 (by rw [nI_1]) rfl hsz (by omega) (by omega) (by omega) (by omega) (by omega) (fun j hj y hy => ?_) (Nat.le_of_ble_eq_true rfl) ⟨(Nat.le_of_ble_eq_true rfl), (Nat.le_of_ble_eq_true rfl)⟩ ?_
    · rw [lstF_i el (by omega)] at hy
      cases hy
      exact hel1 _ (by omega)
    refine wp_aload_n (pc := 34) dJx4a65c_fastRemove_b59b0_34 rfl rfl ?_
    refine wp_aload_n (pc := 35) dJx4a65c_fastRemove_b59b0_35 rfl rfl ?_
    refine wp_iload_n (pc := 36) dJx4a65c_fastRemove_b59b0_36 rfl rfl ?_
    refine wp_dup_x1 (pc := 37) dJx4a65c_fastRemove_b59b0_37 rfl rfl ?_
    have ha2 : up h1 d (aR 3 cap (va_cpy (lstF n el) (lstF n el) (i + 1) i (n - 1 - i))) a = some (oB 0 [.int (mc + 1), .ref d, .int (nI n)]) := by rw [up_n _ (Ne.symm hne)]; exact ha1
    refine wp_put (pc := 38) dJx4a65c_fastRemove_b59b0_38 fl_Jx4a65c_48_0 ha2 (Or.inl rfl) (Nat.le_of_ble_eq_true rfl) rfl rfl ?_
    refine wp_null (pc := 41) dJx4a65c_fastRemove_b59b0_41 ?_
    refine wp_aastN (pc := 42) (i := n - 1) dJx4a65c_fastRemove_b59b0_42 (by rw [up_n _ hne]; exact up_s ..) ⟨rfl, by omega, by omega⟩ ?_
    rw [lstF_rem el hi]
    exact wp_vret (pc := 43) dJx4a65c_fastRemove_b59b0_43 rfl ⟨rfl, by rw [up_s], by rw [up_n _ (Ne.symm hne), up_s]; rfl, fun q k1 k2 => by rw [up_n _ k2, up_n _ k1, up_n _ k2]; exact hfr q k1⟩
theorem j_remove {a d n cap : Nat} {mc : Int32} {el : Nat → Nat} {i : Nat} (h : Hp) (ha : h a = some (oB 0 [.int mc, .ref d, .int (nI n)])) (hd0 : h d = some (aR 3 cap (lstF n el))) (hi : i < n) (hn : n ≤ cap) (hc6 : cap ≤ 600) (hel : ∀ i, i < n → isO h (el i)) : SpV l G mJx4a65c_remove_915e3 [.ref a, .int (nI i)] h (fun r h' => r = .ref (el i) ∧ (fun h' => h' d = some (aR 3 cap (lstF (n - 1) (shl el i))) ∧ h' a = some (oB 0 [.int (mc + 1), .ref d, .int (nI (n - 1))]) ∧ ∀ q, q ≠ a → q ≠ d → h' q = h q) h') := by
  refine Sp.intro (lv := [_, _, _, _]) (by decide) rfl (Nat.le_of_ble_eq_true rfl) ?_
  refine wp_iload_n (pc := 0) dJx4a65c_remove_915e3_0 rfl rfl ?_
  refine wp_aload_n (pc := 1) dJx4a65c_remove_915e3_1 rfl rfl ?_
  refine wp_get (pc := 2) dJx4a65c_remove_915e3_2 fl_Jx4a65c_48_0 ha rfl ?_
  refine wc_SP (pc := 5) (μ2 := mJ15_checkIndex_7cf53) (rc := 0) (rs := 0) [_, _] dJx4a65c_remove_915e3_5 rfl cs_Jx4a65c_118 rfl ⟨(Nat.le_of_ble_eq_true rfl), (Nat.le_of_ble_eq_true rfl)⟩ (Nat.le_of_ble_eq_true rfl) (j_ci l G _ _ _ hi (by omega)) ?_
  refine wp_pop (pc := 8) dJx4a65c_remove_915e3_8 rfl ?_
  refine wp_aload_n (pc := 9) dJx4a65c_remove_915e3_9 rfl rfl ?_
  refine wp_get (pc := 10) dJx4a65c_remove_915e3_10 fl_Jx4a65c_9_0 ha rfl ?_
  refine wp_astore_n (pc := 13) (lv' := [_, _, _, _]) dJx4a65c_remove_915e3_13 rfl (Nat.le_of_ble_eq_true rfl) rfl rfl ?_
  refine wp_aload_n (pc := 14) dJx4a65c_remove_915e3_14 rfl rfl ?_
  refine wp_iload_n (pc := 15) dJx4a65c_remove_915e3_15 rfl rfl ?_
  refine wp_aald (pc := 16) (i := i) (Or.inl rfl) dJx4a65c_remove_915e3_16 hd0 ⟨rfl, by omega, by omega⟩ ?_
  rw [lstF_i el hi]
  refine wp_astore_n (pc := 17) (lv' := [_, _, _, _]) dJx4a65c_remove_915e3_17 rfl (Nat.le_of_ble_eq_true rfl) rfl rfl ?_
  refine wp_aload_n (pc := 18) dJx4a65c_remove_915e3_18 rfl rfl ?_
  refine wp_aload_n (pc := 19) dJx4a65c_remove_915e3_19 rfl rfl ?_
  refine wp_iload_n (pc := 20) dJx4a65c_remove_915e3_20 rfl rfl ?_
  refine wc_VN (pc := 21) (μ2 := mJx4a65c_fastRemove_b59b0) (rc := 0) (rs := 0) [_, _] dJx4a65c_remove_915e3_21 rfl ha rfl cv_Jx4a65c_144_0 rfl ⟨(Nat.le_of_ble_eq_true rfl), (Nat.le_of_ble_eq_true rfl)⟩ (Nat.le_of_ble_eq_true rfl) (j_fastRemove l G _ ha hd0 hi hn hc6 hel) (fun h q => ?_)
  obtain ⟨q1, q2, q3⟩ := q
  refine wp_aload_n (pc := 24) dJx4a65c_remove_915e3_24 rfl rfl ?_
  exact wp_aret (r := some (el i)) (pc := 25) dJx4a65c_remove_915e3_25 rfl (Or.inl ⟨_, rfl⟩) ⟨_, rfl, rfl, q1, q2, q3⟩
theorem j_ac (h : Hp) {a : Nat} : SpN l G mJxa1e45_init_da8c8 [.ref a] h (fun h' => h' = h) := by
  refine Sp.intro (lv := [_]) (by decide) rfl (Nat.le_of_ble_eq_true rfl) ?_
  refine wp_aload_n (pc := 0) dJxa1e45_init_da8c8_0 rfl rfl ?_
  refine wp_objInit (pc := 1) dJxa1e45_init_da8c8_1 ob_Jxa1e45_1 (Nat.le_of_ble_eq_true rfl) ⟨(Nat.le_of_ble_eq_true rfl), (Nat.le_of_ble_eq_true rfl)⟩ ?_
  exact wp_vret (pc := 4) dJxa1e45_init_da8c8_4 rfl ⟨rfl, rfl⟩
theorem j_al (h : Hp) {a : Nat} (ha : h a = some (oB 0 [.int 0, .null, .int 0])) : SpN l G mJxc12de_init_da8c8 [.ref a] h (fun h' => h' a = some (oB 0 [.int 0, .null, .int 0]) ∧ ∀ q, q ≠ a → h' q = h q) := by
  refine Sp.intro (lv := [_]) (by decide) rfl (Nat.le_of_ble_eq_true rfl) ?_
  refine wp_aload_n (pc := 0) dJxc12de_init_da8c8_0 rfl rfl ?_
  refine wc_IN (pc := 1) (μ2 := mJxa1e45_init_da8c8) (rc := 0) (rs := 0) [] dJxc12de_init_da8c8_1 rfl cc_Jxc12de_1 rfl ⟨(Nat.le_of_ble_eq_true rfl), (Nat.le_of_ble_eq_true rfl)⟩ (Nat.le_of_ble_eq_true rfl) (j_ac l G _) (fun h q => ?_)
  obtain rfl := q
  refine wp_aload_n (pc := 4) dJxc12de_init_da8c8_4 rfl rfl ?_
  refine wp_iconst (pc := 5) (v := 0) dJxc12de_init_da8c8_5 (by decide) ?_
  refine wp_put (pc := 6) dJxc12de_init_da8c8_6 fl_Jxc12de_7_0 ha (Or.inl rfl) (Nat.le_of_ble_eq_true rfl) rfl rfl ?_
  exact wp_vret (pc := 9) dJxc12de_init_da8c8_9 rfl ⟨rfl, up_s .., fun q hq => up_n _ hq⟩
theorem j_init (h : Hp) {a : Nat} (ha : h a = some (oB 0 [.int 0, .null, .int 0])) : SpN l G mJx4a65c_init_da8c8 [.ref a] h (fun h' => h' a = some (oB 0 [.int 0, .ref (gE G), .int (nI 0)]) ∧ ∀ q, q ≠ a → h' q = h q) := by
  refine Sp.intro (lv := [_]) (by decide) rfl (Nat.le_of_ble_eq_true rfl) ?_
  refine wp_aload_n (pc := 0) dJx4a65c_init_da8c8_0 rfl rfl ?_
  refine wc_IN (pc := 1) (μ2 := mJxc12de_init_da8c8) (rc := 0) (rs := 0) [] dJx4a65c_init_da8c8_1 rfl cc_Jx4a65c_1 rfl ⟨(Nat.le_of_ble_eq_true rfl), (Nat.le_of_ble_eq_true rfl)⟩ (Nat.le_of_ble_eq_true rfl) (j_al l G _ ha) (fun h q => ?_)
  obtain ⟨q1, q2⟩ := q
  refine wp_aload_n (pc := 4) dJx4a65c_init_da8c8_4 rfl rfl ?_
  refine wp_gets (pc := 5) dJx4a65c_init_da8c8_5 w1_43 ?_
  refine wp_put (pc := 8) dJx4a65c_init_da8c8_8 fl_Jx4a65c_9_0 q1 (Or.inl rfl) (Nat.le_of_ble_eq_true rfl) rfl rfl ?_
  exact wp_vret (pc := 11) dJx4a65c_init_da8c8_11 rfl ⟨rfl, by rw [up_s]; rfl, fun q hq => by rw [up_n _ hq]; exact q2 q hq⟩
end JR
