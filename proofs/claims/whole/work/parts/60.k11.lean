/-! ===== the class: constructors ===== -/
theorem nd_0 : ∀ j, j < 3 → defaultValue (cl_ty 0 j) = vp_V [.int 0, .null, .int 0] j
  | 0, _ => rfl
  | 1, _ => rfl
  | 2, _ => rfl
  | n + 3, hn => absurd hn (by omega)
theorem nd_1 : ∀ j, j < 6 → defaultValue (cl_ty 1 j) = vp_V [.int 0, .int 0, .int 0, .null, .long 0, .int 0] j
  | 0, _ => rfl
  | 1, _ => rfl
  | 2, _ => rfl
  | 3, _ => rfl
  | 4, _ => rfl
  | 5, _ => rfl
  | n + 6, hn => absurd hn (by omega)
theorem nd_2 : ∀ j, j < 5 → defaultValue (cl_ty 2 j) = vp_V [.int 0, .int 0, .int 0, .long 0, .long 0] j
  | 0, _ => rfl
  | 1, _ => rfl
  | 2, _ => rfl
  | 3, _ => rfl
  | 4, _ => rfl
  | n + 5, hn => absurd hn (by omega)
theorem nd_3 : ∀ j, j < 10 → defaultValue (cl_ty 3 j) = vp_V [.int 0, .int 0, .int 0, .int 0, .int 0, .int 0, .long 0, .int 0, .long 0, .int 0] j
  | 0, _ => rfl
  | 1, _ => rfl
  | 2, _ => rfl
  | 3, _ => rfl
  | 4, _ => rfl
  | 5, _ => rfl
  | 6, _ => rfl
  | 7, _ => rfl
  | 8, _ => rfl
  | 9, _ => rfl
  | n + 10, hn => absurd hn (by omega)
theorem nd_4 : ∀ j, j < 6 → defaultValue (cl_ty 4 j) = vp_V [.int 0, .int 0, .int 0, .int 0, .long 0, .long 0] j
  | 0, _ => rfl
  | 1, _ => rfl
  | 2, _ => rfl
  | 3, _ => rfl
  | 4, _ => rfl
  | 5, _ => rfl
  | n + 6, hn => absurd hn (by omega)
theorem nd_5 : ∀ j, j < 5 → defaultValue (cl_ty 5 j) = vp_V [.int 0, .int 0, .int 0, .null, .long 0] j
  | 0, _ => rfl
  | 1, _ => rfl
  | 2, _ => rfl
  | 3, _ => rfl
  | 4, _ => rfl
  | n + 5, hn => absurd hn (by omega)
theorem nd_6 : ∀ j, j < 3 → defaultValue (cl_ty 6 j) = vp_V [.int 0, .int 0, .int 0] j
  | 0, _ => rfl
  | 1, _ => rfl
  | 2, _ => rfl
  | n + 3, hn => absurd hn (by omega)
theorem nd_7 : ∀ j, j < 6 → defaultValue (cl_ty 7 j) = vp_V [.int 0, .int 0, .int 0, .null, .long 0, .int 0] j
  | 0, _ => rfl
  | 1, _ => rfl
  | 2, _ => rfl
  | 3, _ => rfl
  | 4, _ => rfl
  | 5, _ => rfl
  | n + 6, hn => absurd hn (by omega)
theorem nd_8 : ∀ j, j < 5 → defaultValue (cl_ty 8 j) = vp_V [.int 0, .int 0, .int 0, .null, .long 0] j
  | 0, _ => rfl
  | 1, _ => rfl
  | 2, _ => rfl
  | 3, _ => rfl
  | 4, _ => rfl
  | n + 5, hn => absurd hn (by omega)
theorem nd_9 : ∀ j, j < 4 → defaultValue (cl_ty 9 j) = vp_V [.null, .null, .null, .null] j
  | 0, _ => rfl
  | 1, _ => rfl
  | 2, _ => rfl
  | 3, _ => rfl
  | n + 4, hn => absurd hn (by omega)
theorem nd_10 : ∀ j, j < 9 → defaultValue (cl_ty 10 j) = vp_V [.int 0, .int 0, .int 0, .null, .long 0, .null, .int 0, .int 0, .long 0] j
  | 0, _ => rfl
  | 1, _ => rfl
  | 2, _ => rfl
  | 3, _ => rfl
  | 4, _ => rfl
  | 5, _ => rfl
  | 6, _ => rfl
  | 7, _ => rfl
  | 8, _ => rfl
  | n + 9, hn => absurd hn (by omega)
theorem nd_11 : ∀ j, j < 5 → defaultValue (cl_ty 11 j) = vp_V [.int 0, .int 0, .int 0, .null, .int 0] j
  | 0, _ => rfl
  | 1, _ => rfl
  | 2, _ => rfl
  | 3, _ => rfl
  | 4, _ => rfl
  | n + 5, hn => absurd hn (by omega)
theorem nd_12 : ∀ j, j < 18 → defaultValue (cl_ty 12 j) = vp_V [.int 0, .null, .null, .null, .null, .null, .null, .null, .int 0, .int 0, .int 0, .int 0, .int 0, .int 0, .int 0, .int 0, .int 0, .int 0] j
  | 0, _ => rfl
  | 1, _ => rfl
  | 2, _ => rfl
  | 3, _ => rfl
  | 4, _ => rfl
  | 5, _ => rfl
  | 6, _ => rfl
  | 7, _ => rfl
  | 8, _ => rfl
  | 9, _ => rfl
  | 10, _ => rfl
  | 11, _ => rfl
  | 12, _ => rfl
  | 13, _ => rfl
  | 14, _ => rfl
  | 15, _ => rfl
  | 16, _ => rfl
  | 17, _ => rfl
  | n + 18, hn => absurd hn (by omega)
section RA11
variable {G : WG} {hp h h' : Hp} {A : AD} {M : MS}
theorem up_eq {a : Nat} {e : EC} (hc : h' a = some e) (hfr : ∀ q, q ≠ a → h' q = h q) : h' = up h a e := by
  funext q
  by_cases z : q = a
  · subst z; rw [up_s]; exact hc
  · rw [up_n _ z]; exact hfr q z
/-- a fresh cell, made and filled -/
theorem RH.fresh (hR : RH G hp A M h) {a : Nat} {e : EC} (ha : h a = none) (hc : h' a = some e) (hfr : ∀ q, q ≠ a → h' q = h q) : RH G (up hp a e) A M h' := by
  rw [up_eq hc hfr]
  exact hR.alloc ha e
theorem RH.hpn (hR : RH G hp A M h) {a : Nat} (ha : h a = none) : hp a = none := by
  cases hc : hp a with
  | none => rfl
  | some e => have := hR.pr hc; rw [ha] at this; cases this
theorem RH.ngE (hR : RH G hp A M h) {a : Nat} (ha : h a = none) : a ≠ gE G := fun z => by have := hR.nil; rw [← z, ha] at this; cases this
theorem up_up (hp : Hp) (a : Nat) (e e' : EC) : up (up hp a e) a e' = up hp a e' := by
  funext q
  by_cases z : q = a
  · subst z; rw [up_s, up_s]
  · rw [up_n _ z, up_n _ z, up_n _ z]
/-- the fresh cell is filled further -/
theorem RH.upf {a : Nat} {e e' : EC} (hR : RH G (up hp a e) A M h) (hne : a ≠ gE G) (hc : h' a = some e') (hfr : ∀ q, q ≠ a → h' q = h q) : RH G (up hp a e') A M h' := by
  rw [← up_up hp a e e']
  exact hR.upp (up_s ..) hne hc hfr
end RA11
section K11
variable (l : Launch) (G : WG)
theorem c_i5_6 {a : Nat} {b r : Int32} (h : Hp) (ha : h a = some (oB 6 [.int 0, .int 0, .int 0])) : SpN l G mX5_init (.ref a :: [.int b, .int r]) h (fun h' => h' a = some (oB 6 [.int b, .int r, .int 1]) ∧ ∀ q, q ≠ a → h' q = h q) := by
  refine Sp.intro (lv := [_, _, _]) (by decide) rfl (Nat.le_of_ble_eq_true rfl) ?_
  refine wp_widen (rc' := 0) (rs' := 0) (Nat.le_refl _) (Nat.le_refl _) ?_
  have hf : ∀ q, q ≠ a → h q = h q := fun _ _ => rfl
  refine wp_aload_n (pc := 0) dX5_init_0 rfl rfl ?_
  refine wp_objInit (pc := 1) dX5_init_1 ob_X5_1 (Nat.le_of_ble_eq_true rfl) ⟨(Nat.le_of_ble_eq_true rfl), (Nat.le_of_ble_eq_true rfl)⟩ ?_
  refine wp_aload_n (pc := 4) dX5_init_4 rfl rfl ?_
  refine wp_iconst (pc := 5) (v := 1) dX5_init_5 (by decide) ?_
  refine wp_putC (pc := 6) dX5_init_6 fl_X5_7_6 ha (Or.inl rfl) (Nat.le_of_ble_eq_true rfl) rfl rfl rfl (fun h ha hq2 => ?_)
  have hf := fun q (hq : q ≠ a) => (hq2 q hq).trans (hf q hq)
  refine wp_aload_n (pc := 9) dX5_init_9 rfl rfl ?_
  refine wp_iload_n (pc := 10) dX5_init_10 rfl rfl ?_
  refine wp_putC (pc := 11) dX5_init_11 fl_X5_13_6 ha (Or.inr ⟨rfl, rfl, rfl⟩) (Nat.le_of_ble_eq_true rfl) rfl rfl rfl (fun h ha hq2 => ?_)
  have hf := fun q (hq : q ≠ a) => (hq2 q hq).trans (hf q hq)
  refine wp_aload_n (pc := 14) dX5_init_14 rfl rfl ?_
  refine wp_iload_n (pc := 15) dX5_init_15 rfl rfl ?_
  refine wp_putC (pc := 16) dX5_init_16 fl_X5_17_6 ha (Or.inr ⟨rfl, rfl, rfl⟩) (Nat.le_of_ble_eq_true rfl) rfl rfl rfl (fun h ha hq2 => ?_)
  have hf := fun q (hq : q ≠ a) => (hq2 q hq).trans (hf q hq)
  exact wp_vret (pc := 19) dX5_init_19 rfl ⟨rfl, ha, hf⟩
theorem c_i5_11 {a : Nat} {b r : Int32} (h : Hp) (ha : h a = some (oB 11 [.int 0, .int 0, .int 0, .null, .int 0])) : SpN l G mX5_init (.ref a :: [.int b, .int r]) h (fun h' => h' a = some (oB 11 [.int b, .int r, .int 1, .null, .int 0]) ∧ ∀ q, q ≠ a → h' q = h q) := by
  refine Sp.intro (lv := [_, _, _]) (by decide) rfl (Nat.le_of_ble_eq_true rfl) ?_
  refine wp_widen (rc' := 0) (rs' := 0) (Nat.le_refl _) (Nat.le_refl _) ?_
  have hf : ∀ q, q ≠ a → h q = h q := fun _ _ => rfl
  refine wp_aload_n (pc := 0) dX5_init_0 rfl rfl ?_
  refine wp_objInit (pc := 1) dX5_init_1 ob_X5_1 (Nat.le_of_ble_eq_true rfl) ⟨(Nat.le_of_ble_eq_true rfl), (Nat.le_of_ble_eq_true rfl)⟩ ?_
  refine wp_aload_n (pc := 4) dX5_init_4 rfl rfl ?_
  refine wp_iconst (pc := 5) (v := 1) dX5_init_5 (by decide) ?_
  refine wp_putC (pc := 6) dX5_init_6 fl_X5_7_11 ha (Or.inl rfl) (Nat.le_of_ble_eq_true rfl) rfl rfl rfl (fun h ha hq2 => ?_)
  have hf := fun q (hq : q ≠ a) => (hq2 q hq).trans (hf q hq)
  refine wp_aload_n (pc := 9) dX5_init_9 rfl rfl ?_
  refine wp_iload_n (pc := 10) dX5_init_10 rfl rfl ?_
  refine wp_putC (pc := 11) dX5_init_11 fl_X5_13_11 ha (Or.inr ⟨rfl, rfl, rfl⟩) (Nat.le_of_ble_eq_true rfl) rfl rfl rfl (fun h ha hq2 => ?_)
  have hf := fun q (hq : q ≠ a) => (hq2 q hq).trans (hf q hq)
  refine wp_aload_n (pc := 14) dX5_init_14 rfl rfl ?_
  refine wp_iload_n (pc := 15) dX5_init_15 rfl rfl ?_
  refine wp_putC (pc := 16) dX5_init_16 fl_X5_17_11 ha (Or.inr ⟨rfl, rfl, rfl⟩) (Nat.le_of_ble_eq_true rfl) rfl rfl rfl (fun h ha hq2 => ?_)
  have hf := fun q (hq : q ≠ a) => (hq2 q hq).trans (hf q hq)
  exact wp_vret (pc := 19) dX5_init_19 rfl ⟨rfl, ha, hf⟩
theorem c_i2 {a : Nat} {k w p t : Int32} (h : Hp) (ha : h a = some (oB 3 [.int 0, .int 0, .int 0, .int 0, .int 0, .int 0, .long 0, .int 0, .long 0, .int 0])) : SpN l G mX2_init (.ref a :: [.int k, .int w, .int p, .int t]) h (fun h' => h' a = some (oB 3 [.int k, .int w, .int p, .int t, .int 0, .int 0, .long 0, .int 0, .long 0, .int 0]) ∧ ∀ q, q ≠ a → h' q = h q) := by
  refine Sp.intro (lv := [_, _, _, _, _]) (by decide) rfl (Nat.le_of_ble_eq_true rfl) ?_
  refine wp_widen (rc' := 0) (rs' := 0) (Nat.le_refl _) (Nat.le_refl _) ?_
  have hf : ∀ q, q ≠ a → h q = h q := fun _ _ => rfl
  refine wp_aload_n (pc := 0) dX2_init_0 rfl rfl ?_
  refine wp_objInit (pc := 1) dX2_init_1 ob_X2_3 (Nat.le_of_ble_eq_true rfl) ⟨(Nat.le_of_ble_eq_true rfl), (Nat.le_of_ble_eq_true rfl)⟩ ?_
  refine wp_aload_n (pc := 4) dX2_init_4 rfl rfl ?_
  refine wp_iconst (pc := 5) (v := 0) dX2_init_5 (by decide) ?_
  refine wp_putC (pc := 6) dX2_init_6 fl_X2_9_3 ha (Or.inl rfl) (Nat.le_of_ble_eq_true rfl) rfl rfl rfl (fun h ha hq2 => ?_)
  have hf := fun q (hq : q ≠ a) => (hq2 q hq).trans (hf q hq)
  refine wp_aload_n (pc := 9) dX2_init_9 rfl rfl ?_
  refine wp_iconst (pc := 10) (v := 0) dX2_init_10 (by decide) ?_
  refine wp_putC (pc := 11) dX2_init_11 fl_X2_15_3 ha (Or.inl rfl) (Nat.le_of_ble_eq_true rfl) rfl rfl rfl (fun h ha hq2 => ?_)
  have hf := fun q (hq : q ≠ a) => (hq2 q hq).trans (hf q hq)
  refine wp_aload_n (pc := 14) dX2_init_14 rfl rfl ?_
  refine wp_lconst (pc := 15) (v := 0) dX2_init_15 (by decide) ?_
  refine wp_putC (pc := 16) dX2_init_16 fl_X2_18_3 ha (Or.inl rfl) (Nat.le_of_ble_eq_true rfl) rfl rfl rfl (fun h ha hq2 => ?_)
  have hf := fun q (hq : q ≠ a) => (hq2 q hq).trans (hf q hq)
  refine wp_aload_n (pc := 19) dX2_init_19 rfl rfl ?_
  refine wp_iconst (pc := 20) (v := 0) dX2_init_20 (by decide) ?_
  refine wp_putC (pc := 21) dX2_init_21 fl_X2_22_3 ha (Or.inl rfl) (Nat.le_of_ble_eq_true rfl) rfl rfl rfl (fun h ha hq2 => ?_)
  have hf := fun q (hq : q ≠ a) => (hq2 q hq).trans (hf q hq)
  refine wp_aload_n (pc := 24) dX2_init_24 rfl rfl ?_
  refine wp_lconst (pc := 25) (v := 0) dX2_init_25 (by decide) ?_
  refine wp_putC (pc := 26) dX2_init_26 fl_X2_25_3 ha (Or.inl rfl) (Nat.le_of_ble_eq_true rfl) rfl rfl rfl (fun h ha hq2 => ?_)
  have hf := fun q (hq : q ≠ a) => (hq2 q hq).trans (hf q hq)
  refine wp_aload_n (pc := 29) dX2_init_29 rfl rfl ?_
  refine wp_iconst (pc := 30) (v := 0) dX2_init_30 (by decide) ?_
  refine wp_putC (pc := 31) dX2_init_31 fl_X2_28_3 ha (Or.inl rfl) (Nat.le_of_ble_eq_true rfl) rfl rfl rfl (fun h ha hq2 => ?_)
  have hf := fun q (hq : q ≠ a) => (hq2 q hq).trans (hf q hq)
  refine wp_aload_n (pc := 34) dX2_init_34 rfl rfl ?_
  refine wp_iload_n (pc := 35) dX2_init_35 rfl rfl ?_
  refine wp_putC (pc := 36) dX2_init_36 fl_X2_31_3 ha (Or.inr ⟨rfl, rfl, rfl⟩) (Nat.le_of_ble_eq_true rfl) rfl rfl rfl (fun h ha hq2 => ?_)
  have hf := fun q (hq : q ≠ a) => (hq2 q hq).trans (hf q hq)
  refine wp_aload_n (pc := 39) dX2_init_39 rfl rfl ?_
  refine wp_iload_n (pc := 40) dX2_init_40 rfl rfl ?_
  refine wp_putC (pc := 41) dX2_init_41 fl_X2_34_3 ha (Or.inr ⟨rfl, rfl, rfl⟩) (Nat.le_of_ble_eq_true rfl) rfl rfl rfl (fun h ha hq2 => ?_)
  have hf := fun q (hq : q ≠ a) => (hq2 q hq).trans (hf q hq)
  refine wp_aload_n (pc := 44) dX2_init_44 rfl rfl ?_
  refine wp_iload_n (pc := 45) dX2_init_45 rfl rfl ?_
  refine wp_putC (pc := 46) dX2_init_46 fl_X2_37_3 ha (Or.inr ⟨rfl, rfl, rfl⟩) (Nat.le_of_ble_eq_true rfl) rfl rfl rfl (fun h ha hq2 => ?_)
  have hf := fun q (hq : q ≠ a) => (hq2 q hq).trans (hf q hq)
  refine wp_aload_n (pc := 49) dX2_init_49 rfl rfl ?_
  refine wp_iload (pc := 50) dX2_init_50 rfl ?_
  refine wp_putC (pc := 52) dX2_init_52 fl_X2_40_3 ha (Or.inr ⟨rfl, rfl, rfl⟩) (Nat.le_of_ble_eq_true rfl) rfl rfl rfl (fun h ha hq2 => ?_)
  have hf := fun q (hq : q ≠ a) => (hq2 q hq).trans (hf q hq)
  exact wp_vret (pc := 55) dX2_init_55 rfl ⟨rfl, ha, hf⟩
theorem c_i1 {a : Nat} {w m p : Int32} (h : Hp) (ha : h a = some (oB 2 [.int 0, .int 0, .int 0, .long 0, .long 0])) : SpN l G mX1_init (.ref a :: [.int w, .int m, .int p]) h (fun h' => h' a = some (oB 2 [.int w, .int p, .int m, .long 0, .long 0]) ∧ ∀ q, q ≠ a → h' q = h q) := by
  refine Sp.intro (lv := [_, _, _, _]) (by decide) rfl (Nat.le_of_ble_eq_true rfl) ?_
  refine wp_widen (rc' := 0) (rs' := 0) (Nat.le_refl _) (Nat.le_refl _) ?_
  have hf : ∀ q, q ≠ a → h q = h q := fun _ _ => rfl
  refine wp_aload_n (pc := 0) dX1_init_0 rfl rfl ?_
  refine wp_objInit (pc := 1) dX1_init_1 ob_X1_1 (Nat.le_of_ble_eq_true rfl) ⟨(Nat.le_of_ble_eq_true rfl), (Nat.le_of_ble_eq_true rfl)⟩ ?_
  refine wp_aload_n (pc := 4) dX1_init_4 rfl rfl ?_
  refine wp_lconst (pc := 5) (v := 0) dX1_init_5 (by decide) ?_
  refine wp_putC (pc := 6) dX1_init_6 fl_X1_7_2 ha (Or.inl rfl) (Nat.le_of_ble_eq_true rfl) rfl rfl rfl (fun h ha hq2 => ?_)
  have hf := fun q (hq : q ≠ a) => (hq2 q hq).trans (hf q hq)
  refine wp_aload_n (pc := 9) dX1_init_9 rfl rfl ?_
  refine wp_lconst (pc := 10) (v := 0) dX1_init_10 (by decide) ?_
  refine wp_putC (pc := 11) dX1_init_11 fl_X1_13_2 ha (Or.inl rfl) (Nat.le_of_ble_eq_true rfl) rfl rfl rfl (fun h ha hq2 => ?_)
  have hf := fun q (hq : q ≠ a) => (hq2 q hq).trans (hf q hq)
  refine wp_aload_n (pc := 14) dX1_init_14 rfl rfl ?_
  refine wp_iload_n (pc := 15) dX1_init_15 rfl rfl ?_
  refine wp_putC (pc := 16) dX1_init_16 fl_X1_16_2 ha (Or.inr ⟨rfl, rfl, rfl⟩) (Nat.le_of_ble_eq_true rfl) rfl rfl rfl (fun h ha hq2 => ?_)
  have hf := fun q (hq : q ≠ a) => (hq2 q hq).trans (hf q hq)
  refine wp_aload_n (pc := 19) dX1_init_19 rfl rfl ?_
  refine wp_iload_n (pc := 20) dX1_init_20 rfl rfl ?_
  refine wp_putC (pc := 21) dX1_init_21 fl_X1_20_2 ha (Or.inl rfl) (Nat.le_of_ble_eq_true rfl) rfl rfl rfl (fun h ha hq2 => ?_)
  have hf := fun q (hq : q ≠ a) => (hq2 q hq).trans (hf q hq)
  refine wp_aload_n (pc := 24) dX1_init_24 rfl rfl ?_
  refine wp_iload_n (pc := 25) dX1_init_25 rfl rfl ?_
  refine wp_putC (pc := 26) dX1_init_26 fl_X1_23_2 ha (Or.inr ⟨rfl, rfl, rfl⟩) (Nat.le_of_ble_eq_true rfl) rfl rfl rfl (fun h ha hq2 => ?_)
  have hf := fun q (hq : q ≠ a) => (hq2 q hq).trans (hf q hq)
  exact wp_vret (pc := 29) dX1_init_29 rfl ⟨rfl, ha, hf⟩
theorem c_i3 {a : Nat}  (h : Hp) (ha : h a = some (oB 4 [.int 0, .int 0, .int 0, .int 0, .long 0, .long 0])) : SpN l G mX3_init (.ref a :: []) h (fun h' => h' a = some (oB 4 [.int 0, .int 0, .int 0, .int 0, .long 0, .long 0]) ∧ ∀ q, q ≠ a → h' q = h q) := by
  refine Sp.intro (lv := [_]) (by decide) rfl (Nat.le_of_ble_eq_true rfl) ?_
  refine wp_widen (rc' := 0) (rs' := 0) (Nat.le_refl _) (Nat.le_refl _) ?_
  have hf : ∀ q, q ≠ a → h q = h q := fun _ _ => rfl
  refine wp_aload_n (pc := 0) dX3_init_0 rfl rfl ?_
  refine wp_objInit (pc := 1) dX3_init_1 ob_X3_1 (Nat.le_of_ble_eq_true rfl) ⟨(Nat.le_of_ble_eq_true rfl), (Nat.le_of_ble_eq_true rfl)⟩ ?_
  refine wp_aload_n (pc := 4) dX3_init_4 rfl rfl ?_
  refine wp_iconst (pc := 5) (v := 0) dX3_init_5 (by decide) ?_
  refine wp_putC (pc := 6) dX3_init_6 fl_X3_7_4 ha (Or.inl rfl) (Nat.le_of_ble_eq_true rfl) rfl rfl rfl (fun h ha hq2 => ?_)
  have hf := fun q (hq : q ≠ a) => (hq2 q hq).trans (hf q hq)
  refine wp_aload_n (pc := 9) dX3_init_9 rfl rfl ?_
  refine wp_iconst (pc := 10) (v := 0) dX3_init_10 (by decide) ?_
  refine wp_putC (pc := 11) dX3_init_11 fl_X3_13_4 ha (Or.inl rfl) (Nat.le_of_ble_eq_true rfl) rfl rfl rfl (fun h ha hq2 => ?_)
  have hf := fun q (hq : q ≠ a) => (hq2 q hq).trans (hf q hq)
  refine wp_aload_n (pc := 14) dX3_init_14 rfl rfl ?_
  refine wp_iconst (pc := 15) (v := 0) dX3_init_15 (by decide) ?_
  refine wp_putC (pc := 16) dX3_init_16 fl_X3_17_4 ha (Or.inl rfl) (Nat.le_of_ble_eq_true rfl) rfl rfl rfl (fun h ha hq2 => ?_)
  have hf := fun q (hq : q ≠ a) => (hq2 q hq).trans (hf q hq)
  refine wp_aload_n (pc := 19) dX3_init_19 rfl rfl ?_
  refine wp_iconst (pc := 20) (v := 0) dX3_init_20 (by decide) ?_
  refine wp_putC (pc := 21) dX3_init_21 fl_X3_20_4 ha (Or.inl rfl) (Nat.le_of_ble_eq_true rfl) rfl rfl rfl (fun h ha hq2 => ?_)
  have hf := fun q (hq : q ≠ a) => (hq2 q hq).trans (hf q hq)
  refine wp_aload_n (pc := 24) dX3_init_24 rfl rfl ?_
  refine wp_lconst (pc := 25) (v := 0) dX3_init_25 (by decide) ?_
  refine wp_putC (pc := 26) dX3_init_26 fl_X3_23_4 ha (Or.inl rfl) (Nat.le_of_ble_eq_true rfl) rfl rfl rfl (fun h ha hq2 => ?_)
  have hf := fun q (hq : q ≠ a) => (hq2 q hq).trans (hf q hq)
  refine wp_aload_n (pc := 29) dX3_init_29 rfl rfl ?_
  refine wp_lconst (pc := 30) (v := 0) dX3_init_30 (by decide) ?_
  refine wp_putC (pc := 31) dX3_init_31 fl_X3_27_4 ha (Or.inl rfl) (Nat.le_of_ble_eq_true rfl) rfl rfl rfl (fun h ha hq2 => ?_)
  have hf := fun q (hq : q ≠ a) => (hq2 q hq).trans (hf q hq)
  exact wp_vret (pc := 34) dX3_init_34 rfl ⟨rfl, ha, hf⟩
theorem c_fill {a : Nat} {m p : Int32} {n : Int64} {k w kp t x1 x2 x4 x6 : Int32} {x3 x5 : Int64} (h : Hp) (ha : h a = some (oB 3 [.int k, .int w, .int kp, .int t, .int x1, .int x2, .long x3, .int x4, .long x5, .int x6])) : SpN l G mX2_fill (.ref a :: [.int m, .int p, .long n]) h (fun h' => h' a = some (oB 3 [.int k, .int w, .int kp, .int t, .int m, .int p, .long n, .int x4, .long x5, .int x6]) ∧ ∀ q, q ≠ a → h' q = h q) := by
  refine Sp.intro (lv := [_, _, _, _, _]) (by decide) rfl (Nat.le_of_ble_eq_true rfl) ?_
  refine wp_widen (rc' := 0) (rs' := 0) (Nat.le_refl _) (Nat.le_refl _) ?_
  have hf : ∀ q, q ≠ a → h q = h q := fun _ _ => rfl
  refine wp_aload_n (pc := 0) dX2_fill_0 rfl rfl ?_
  refine wp_iload_n (pc := 1) dX2_fill_1 rfl rfl ?_
  refine wp_putC (pc := 2) dX2_fill_2 fl_X2_9_3 ha (Or.inl rfl) (Nat.le_of_ble_eq_true rfl) rfl rfl rfl (fun h ha hq2 => ?_)
  have hf := fun q (hq : q ≠ a) => (hq2 q hq).trans (hf q hq)
  refine wp_aload_n (pc := 5) dX2_fill_5 rfl rfl ?_
  refine wp_iload_n (pc := 6) dX2_fill_6 rfl rfl ?_
  refine wp_putC (pc := 7) dX2_fill_7 fl_X2_15_3 ha (Or.inl rfl) (Nat.le_of_ble_eq_true rfl) rfl rfl rfl (fun h ha hq2 => ?_)
  have hf := fun q (hq : q ≠ a) => (hq2 q hq).trans (hf q hq)
  refine wp_aload_n (pc := 10) dX2_fill_10 rfl rfl ?_
  refine wp_lload_n (pc := 11) dX2_fill_11 rfl rfl ?_
  refine wp_putC (pc := 12) dX2_fill_12 fl_X2_18_3 ha (Or.inl rfl) (Nat.le_of_ble_eq_true rfl) rfl rfl rfl (fun h ha hq2 => ?_)
  have hf := fun q (hq : q ≠ a) => (hq2 q hq).trans (hf q hq)
  exact wp_vret (pc := 15) dX2_fill_15 rfl ⟨rfl, ha, hf⟩
theorem c_takeMark {a b : Nat} {k w kp t x1 x2 x4 x6 mk : Int32} {x3 x5 ak : Int64} {v0 v1 v2 v3 v4 v5 v6 v9 : Value} (h : Hp) (ha : h a = some (oB 3 [.int k, .int w, .int kp, .int t, .int x1, .int x2, .long x3, .int x4, .long x5, .int x6])) (hb : h b = some (oB 3 [v0, v1, v2, v3, v4, v5, v6, .int mk, .long ak, v9])) (hne : b ≠ a) : SpN l G mX2_takeMarkOf [.ref a, .ref b] h (fun h' => h' a = some (oB 3 [.int k, .int w, .int kp, .int t, .int x1, .int x2, .long x3, .int mk, .long ak, .int x6]) ∧ ∀ q, q ≠ a → h' q = h q) := by
  refine Sp.intro (lv := [_, _]) (by decide) rfl (Nat.le_of_ble_eq_true rfl) ?_
  refine wp_widen (rc' := 0) (rs' := 0) (Nat.le_refl _) (Nat.le_refl _) ?_
  have hf : ∀ q, q ≠ a → h q = h q := fun _ _ => rfl
  refine wp_aload_n (pc := 0) dX2_takeMarkOf_0 rfl rfl ?_
  refine wp_aload_n (pc := 1) dX2_takeMarkOf_1 rfl rfl ?_
  refine wp_get (pc := 2) dX2_takeMarkOf_2 fl_X2_22_3 hb rfl ?_
  refine wp_putC (pc := 5) dX2_takeMarkOf_5 fl_X2_22_3 ha (Or.inl rfl) (Nat.le_of_ble_eq_true rfl) rfl rfl rfl (fun h ha hq2 => ?_)
  have hf := fun q (hq : q ≠ a) => (hq2 q hq).trans (hf q hq)
  have hb := (hq2 b hne).trans hb
  refine wp_aload_n (pc := 8) dX2_takeMarkOf_8 rfl rfl ?_
  refine wp_aload_n (pc := 9) dX2_takeMarkOf_9 rfl rfl ?_
  refine wp_get (pc := 10) dX2_takeMarkOf_10 fl_X2_25_3 hb rfl ?_
  refine wp_putC (pc := 13) dX2_takeMarkOf_13 fl_X2_25_3 ha (Or.inl rfl) (Nat.le_of_ble_eq_true rfl) rfl rfl rfl (fun h ha hq2 => ?_)
  have hf := fun q (hq : q ≠ a) => (hq2 q hq).trans (hf q hq)
  have hb := (hq2 b hne).trans hb
  exact wp_vret (pc := 16) dX2_takeMarkOf_16 rfl ⟨rfl, ha, hf⟩
theorem c_i4_5 {a : Nat} {k n s : Int32} (h : Hp) (ha : h a = some (oB 5 [.int 0, .int 0, .int 0, .null, .long 0])) : SpN l G mX4_init [.ref a, .int k, .int n, .int s] h (fun h' => ∃ gl, h gl = none ∧ h' gl = some (oB 0 [.int 0, .ref (gE G), .int (nI 0)]) ∧ h' a = some (oB 5 [.int k, .int n, .int s, .ref gl, .long 0]) ∧ ∀ q, q ≠ a → q ≠ gl → h' q = h q) := by
  refine Sp.intro (lv := [_, _, _, _]) (by decide) rfl (Nat.le_of_ble_eq_true rfl) ?_
  refine wp_widen (rc' := 1) (rs' := 3) (Nat.le_refl _) (Nat.le_refl _) ?_
  generalize hQ0 : (fun (w : Option Value) (h' : Hp) => w = none ∧ ∃ gl, h gl = none ∧ h' gl = some (oB 0 [.int 0, .ref (gE G), .int (nI 0)]) ∧ h' a = some (oB 5 [.int k, .int n, .int s, .ref gl, .long 0]) ∧ ∀ q, q ≠ a → q ≠ gl → h' q = h q) = Q0
  refine wp_aload_n (pc := 0) dX4_init_0 rfl rfl ?_
  refine wp_objInit (pc := 1) dX4_init_1 ob_X4_3 (Nat.le_of_ble_eq_true rfl) ⟨(Nat.le_of_ble_eq_true rfl), (Nat.le_of_ble_eq_true rfl)⟩ ?_
  refine wp_aload_n (pc := 4) dX4_init_4 rfl rfl ?_
  refine wp_new (pc := 5) (rc := 0) (rs := 0) (ci := 0) (fs := [.int 0, .null, .int 0]) dX4_init_5 nw_X4_9 rfl nd_0 (fun gl gln glg => ?_)
  refine wp_dup (pc := 8) dX4_init_8 rfl ?_
  refine wc_IN (pc := 9) (μ2 := mJx4a65c_init_da8c8) (rc := 0) (rs := 0) [] dX4_init_9 rfl cc_X4_11 rfl ⟨(Nat.le_of_ble_eq_true rfl), (Nat.le_of_ble_eq_true rfl)⟩ (Nat.le_of_ble_eq_true rfl) (j_init l G _ (up_s ..)) (fun h q => ?_)
  obtain ⟨hgl, hf0⟩ := q
  have hne : gl ≠ a := fun z => by rw [z, ha] at gln; cases gln
  have ha := (hf0 a (Ne.symm hne)).trans ((up_n _ (Ne.symm hne)).trans ha)
  have hf : ∀ q, q ≠ a → q ≠ gl → _ := fun q (_ : q ≠ a) (h2 : q ≠ gl) => (hf0 q h2).trans (up_n _ h2)
  refine wp_putC (pc := 12) dX4_init_12 fl_X4_12_5 ha (Or.inr ⟨rfl, rfl, rfl⟩) (Nat.le_of_ble_eq_true rfl) rfl rfl rfl (fun h ha hq2 => ?_)
  have hgl := (hq2 gl hne).trans hgl
  have hf := fun q (h1 : q ≠ a) (h2 : q ≠ gl) => (hq2 q h1).trans (hf q h1 h2)
  refine wp_aload_n (pc := 15) dX4_init_15 rfl rfl ?_
  refine wp_lconst (pc := 16) (v := 0) dX4_init_16 (by decide) ?_
  refine wp_putC (pc := 17) dX4_init_17 fl_X4_18_5 ha (Or.inl rfl) (Nat.le_of_ble_eq_true rfl) rfl rfl rfl (fun h ha hq2 => ?_)
  have hgl := (hq2 gl hne).trans hgl
  have hf := fun q (h1 : q ≠ a) (h2 : q ≠ gl) => (hq2 q h1).trans (hf q h1 h2)
  refine wp_aload_n (pc := 20) dX4_init_20 rfl rfl ?_
  refine wp_iload_n (pc := 21) dX4_init_21 rfl rfl ?_
  refine wp_putC (pc := 22) dX4_init_22 fl_X4_22_5 ha (Or.inr ⟨rfl, rfl, rfl⟩) (Nat.le_of_ble_eq_true rfl) rfl rfl rfl (fun h ha hq2 => ?_)
  have hgl := (hq2 gl hne).trans hgl
  have hf := fun q (h1 : q ≠ a) (h2 : q ≠ gl) => (hq2 q h1).trans (hf q h1 h2)
  refine wp_aload_n (pc := 25) dX4_init_25 rfl rfl ?_
  refine wp_iload_n (pc := 26) dX4_init_26 rfl rfl ?_
  refine wp_putC (pc := 27) dX4_init_27 fl_X4_26_5 ha (Or.inr ⟨rfl, rfl, rfl⟩) (Nat.le_of_ble_eq_true rfl) rfl rfl rfl (fun h ha hq2 => ?_)
  have hgl := (hq2 gl hne).trans hgl
  have hf := fun q (h1 : q ≠ a) (h2 : q ≠ gl) => (hq2 q h1).trans (hf q h1 h2)
  refine wp_aload_n (pc := 30) dX4_init_30 rfl rfl ?_
  refine wp_iload_n (pc := 31) dX4_init_31 rfl rfl ?_
  refine wp_putC (pc := 32) dX4_init_32 fl_X4_29_5 ha (Or.inr ⟨rfl, rfl, rfl⟩) (Nat.le_of_ble_eq_true rfl) rfl rfl rfl (fun h ha hq2 => ?_)
  have hgl := (hq2 gl hne).trans hgl
  have hf := fun q (h1 : q ≠ a) (h2 : q ≠ gl) => (hq2 q h1).trans (hf q h1 h2)
  exact wp_vret (pc := 35) dX4_init_35 rfl (by rw [← hQ0]; exact ⟨rfl, gl, gln, hgl, ha, hf⟩)
theorem c_i4_8 {a : Nat} {k n s : Int32} (h : Hp) (ha : h a = some (oB 8 [.int 0, .int 0, .int 0, .null, .long 0])) : SpN l G mX4_init [.ref a, .int k, .int n, .int s] h (fun h' => ∃ gl, h gl = none ∧ h' gl = some (oB 0 [.int 0, .ref (gE G), .int (nI 0)]) ∧ h' a = some (oB 8 [.int k, .int n, .int s, .ref gl, .long 0]) ∧ ∀ q, q ≠ a → q ≠ gl → h' q = h q) := by
  refine Sp.intro (lv := [_, _, _, _]) (by decide) rfl (Nat.le_of_ble_eq_true rfl) ?_
  refine wp_widen (rc' := 1) (rs' := 3) (Nat.le_refl _) (Nat.le_refl _) ?_
  generalize hQ0 : (fun (w : Option Value) (h' : Hp) => w = none ∧ ∃ gl, h gl = none ∧ h' gl = some (oB 0 [.int 0, .ref (gE G), .int (nI 0)]) ∧ h' a = some (oB 8 [.int k, .int n, .int s, .ref gl, .long 0]) ∧ ∀ q, q ≠ a → q ≠ gl → h' q = h q) = Q0
  refine wp_aload_n (pc := 0) dX4_init_0 rfl rfl ?_
  refine wp_objInit (pc := 1) dX4_init_1 ob_X4_3 (Nat.le_of_ble_eq_true rfl) ⟨(Nat.le_of_ble_eq_true rfl), (Nat.le_of_ble_eq_true rfl)⟩ ?_
  refine wp_aload_n (pc := 4) dX4_init_4 rfl rfl ?_
  refine wp_new (pc := 5) (rc := 0) (rs := 0) (ci := 0) (fs := [.int 0, .null, .int 0]) dX4_init_5 nw_X4_9 rfl nd_0 (fun gl gln glg => ?_)
  refine wp_dup (pc := 8) dX4_init_8 rfl ?_
  refine wc_IN (pc := 9) (μ2 := mJx4a65c_init_da8c8) (rc := 0) (rs := 0) [] dX4_init_9 rfl cc_X4_11 rfl ⟨(Nat.le_of_ble_eq_true rfl), (Nat.le_of_ble_eq_true rfl)⟩ (Nat.le_of_ble_eq_true rfl) (j_init l G _ (up_s ..)) (fun h q => ?_)
  obtain ⟨hgl, hf0⟩ := q
  have hne : gl ≠ a := fun z => by rw [z, ha] at gln; cases gln
  have ha := (hf0 a (Ne.symm hne)).trans ((up_n _ (Ne.symm hne)).trans ha)
  have hf : ∀ q, q ≠ a → q ≠ gl → _ := fun q (_ : q ≠ a) (h2 : q ≠ gl) => (hf0 q h2).trans (up_n _ h2)
  refine wp_putC (pc := 12) dX4_init_12 fl_X4_12_8 ha (Or.inr ⟨rfl, rfl, rfl⟩) (Nat.le_of_ble_eq_true rfl) rfl rfl rfl (fun h ha hq2 => ?_)
  have hgl := (hq2 gl hne).trans hgl
  have hf := fun q (h1 : q ≠ a) (h2 : q ≠ gl) => (hq2 q h1).trans (hf q h1 h2)
  refine wp_aload_n (pc := 15) dX4_init_15 rfl rfl ?_
  refine wp_lconst (pc := 16) (v := 0) dX4_init_16 (by decide) ?_
  refine wp_putC (pc := 17) dX4_init_17 fl_X4_18_8 ha (Or.inl rfl) (Nat.le_of_ble_eq_true rfl) rfl rfl rfl (fun h ha hq2 => ?_)
  have hgl := (hq2 gl hne).trans hgl
  have hf := fun q (h1 : q ≠ a) (h2 : q ≠ gl) => (hq2 q h1).trans (hf q h1 h2)
  refine wp_aload_n (pc := 20) dX4_init_20 rfl rfl ?_
  refine wp_iload_n (pc := 21) dX4_init_21 rfl rfl ?_
  refine wp_putC (pc := 22) dX4_init_22 fl_X4_22_8 ha (Or.inr ⟨rfl, rfl, rfl⟩) (Nat.le_of_ble_eq_true rfl) rfl rfl rfl (fun h ha hq2 => ?_)
  have hgl := (hq2 gl hne).trans hgl
  have hf := fun q (h1 : q ≠ a) (h2 : q ≠ gl) => (hq2 q h1).trans (hf q h1 h2)
  refine wp_aload_n (pc := 25) dX4_init_25 rfl rfl ?_
  refine wp_iload_n (pc := 26) dX4_init_26 rfl rfl ?_
  refine wp_putC (pc := 27) dX4_init_27 fl_X4_26_8 ha (Or.inr ⟨rfl, rfl, rfl⟩) (Nat.le_of_ble_eq_true rfl) rfl rfl rfl (fun h ha hq2 => ?_)
  have hgl := (hq2 gl hne).trans hgl
  have hf := fun q (h1 : q ≠ a) (h2 : q ≠ gl) => (hq2 q h1).trans (hf q h1 h2)
  refine wp_aload_n (pc := 30) dX4_init_30 rfl rfl ?_
  refine wp_iload_n (pc := 31) dX4_init_31 rfl rfl ?_
  refine wp_putC (pc := 32) dX4_init_32 fl_X4_29_8 ha (Or.inr ⟨rfl, rfl, rfl⟩) (Nat.le_of_ble_eq_true rfl) rfl rfl rfl (fun h ha hq2 => ?_)
  have hgl := (hq2 gl hne).trans hgl
  have hf := fun q (h1 : q ≠ a) (h2 : q ≠ gl) => (hq2 q h1).trans (hf q h1 h2)
  exact wp_vret (pc := 35) dX4_init_35 rfl (by rw [← hQ0]; exact ⟨rfl, gl, gln, hgl, ha, hf⟩)
theorem c_i4_1 {a : Nat} {k n s : Int32} (h : Hp) (ha : h a = some (oB 1 [.int 0, .int 0, .int 0, .null, .long 0, .int 0])) : SpN l G mX4_init [.ref a, .int k, .int n, .int s] h (fun h' => ∃ gl, h gl = none ∧ h' gl = some (oB 0 [.int 0, .ref (gE G), .int (nI 0)]) ∧ h' a = some (oB 1 [.int k, .int n, .int s, .ref gl, .long 0, .int 0]) ∧ ∀ q, q ≠ a → q ≠ gl → h' q = h q) := by
  refine Sp.intro (lv := [_, _, _, _]) (by decide) rfl (Nat.le_of_ble_eq_true rfl) ?_
  refine wp_widen (rc' := 1) (rs' := 3) (Nat.le_refl _) (Nat.le_refl _) ?_
  generalize hQ0 : (fun (w : Option Value) (h' : Hp) => w = none ∧ ∃ gl, h gl = none ∧ h' gl = some (oB 0 [.int 0, .ref (gE G), .int (nI 0)]) ∧ h' a = some (oB 1 [.int k, .int n, .int s, .ref gl, .long 0, .int 0]) ∧ ∀ q, q ≠ a → q ≠ gl → h' q = h q) = Q0
  refine wp_aload_n (pc := 0) dX4_init_0 rfl rfl ?_
  refine wp_objInit (pc := 1) dX4_init_1 ob_X4_3 (Nat.le_of_ble_eq_true rfl) ⟨(Nat.le_of_ble_eq_true rfl), (Nat.le_of_ble_eq_true rfl)⟩ ?_
  refine wp_aload_n (pc := 4) dX4_init_4 rfl rfl ?_
  refine wp_new (pc := 5) (rc := 0) (rs := 0) (ci := 0) (fs := [.int 0, .null, .int 0]) dX4_init_5 nw_X4_9 rfl nd_0 (fun gl gln glg => ?_)
  refine wp_dup (pc := 8) dX4_init_8 rfl ?_
  refine wc_IN (pc := 9) (μ2 := mJx4a65c_init_da8c8) (rc := 0) (rs := 0) [] dX4_init_9 rfl cc_X4_11 rfl ⟨(Nat.le_of_ble_eq_true rfl), (Nat.le_of_ble_eq_true rfl)⟩ (Nat.le_of_ble_eq_true rfl) (j_init l G _ (up_s ..)) (fun h q => ?_)
  obtain ⟨hgl, hf0⟩ := q
  have hne : gl ≠ a := fun z => by rw [z, ha] at gln; cases gln
  have ha := (hf0 a (Ne.symm hne)).trans ((up_n _ (Ne.symm hne)).trans ha)
  have hf : ∀ q, q ≠ a → q ≠ gl → _ := fun q (_ : q ≠ a) (h2 : q ≠ gl) => (hf0 q h2).trans (up_n _ h2)
  refine wp_putC (pc := 12) dX4_init_12 fl_X4_12_1 ha (Or.inr ⟨rfl, rfl, rfl⟩) (Nat.le_of_ble_eq_true rfl) rfl rfl rfl (fun h ha hq2 => ?_)
  have hgl := (hq2 gl hne).trans hgl
  have hf := fun q (h1 : q ≠ a) (h2 : q ≠ gl) => (hq2 q h1).trans (hf q h1 h2)
  refine wp_aload_n (pc := 15) dX4_init_15 rfl rfl ?_
  refine wp_lconst (pc := 16) (v := 0) dX4_init_16 (by decide) ?_
  refine wp_putC (pc := 17) dX4_init_17 fl_X4_18_1 ha (Or.inl rfl) (Nat.le_of_ble_eq_true rfl) rfl rfl rfl (fun h ha hq2 => ?_)
  have hgl := (hq2 gl hne).trans hgl
  have hf := fun q (h1 : q ≠ a) (h2 : q ≠ gl) => (hq2 q h1).trans (hf q h1 h2)
  refine wp_aload_n (pc := 20) dX4_init_20 rfl rfl ?_
  refine wp_iload_n (pc := 21) dX4_init_21 rfl rfl ?_
  refine wp_putC (pc := 22) dX4_init_22 fl_X4_22_1 ha (Or.inr ⟨rfl, rfl, rfl⟩) (Nat.le_of_ble_eq_true rfl) rfl rfl rfl (fun h ha hq2 => ?_)
  have hgl := (hq2 gl hne).trans hgl
  have hf := fun q (h1 : q ≠ a) (h2 : q ≠ gl) => (hq2 q h1).trans (hf q h1 h2)
  refine wp_aload_n (pc := 25) dX4_init_25 rfl rfl ?_
  refine wp_iload_n (pc := 26) dX4_init_26 rfl rfl ?_
  refine wp_putC (pc := 27) dX4_init_27 fl_X4_26_1 ha (Or.inr ⟨rfl, rfl, rfl⟩) (Nat.le_of_ble_eq_true rfl) rfl rfl rfl (fun h ha hq2 => ?_)
  have hgl := (hq2 gl hne).trans hgl
  have hf := fun q (h1 : q ≠ a) (h2 : q ≠ gl) => (hq2 q h1).trans (hf q h1 h2)
  refine wp_aload_n (pc := 30) dX4_init_30 rfl rfl ?_
  refine wp_iload_n (pc := 31) dX4_init_31 rfl rfl ?_
  refine wp_putC (pc := 32) dX4_init_32 fl_X4_29_1 ha (Or.inr ⟨rfl, rfl, rfl⟩) (Nat.le_of_ble_eq_true rfl) rfl rfl rfl (fun h ha hq2 => ?_)
  have hgl := (hq2 gl hne).trans hgl
  have hf := fun q (h1 : q ≠ a) (h2 : q ≠ gl) => (hq2 q h1).trans (hf q h1 h2)
  exact wp_vret (pc := 35) dX4_init_35 rfl (by rw [← hQ0]; exact ⟨rfl, gl, gln, hgl, ha, hf⟩)
theorem c_i4_7 {a : Nat} {k n s : Int32} (h : Hp) (ha : h a = some (oB 7 [.int 0, .int 0, .int 0, .null, .long 0, .int 0])) : SpN l G mX4_init [.ref a, .int k, .int n, .int s] h (fun h' => ∃ gl, h gl = none ∧ h' gl = some (oB 0 [.int 0, .ref (gE G), .int (nI 0)]) ∧ h' a = some (oB 7 [.int k, .int n, .int s, .ref gl, .long 0, .int 0]) ∧ ∀ q, q ≠ a → q ≠ gl → h' q = h q) := by
  refine Sp.intro (lv := [_, _, _, _]) (by decide) rfl (Nat.le_of_ble_eq_true rfl) ?_
  refine wp_widen (rc' := 1) (rs' := 3) (Nat.le_refl _) (Nat.le_refl _) ?_
  generalize hQ0 : (fun (w : Option Value) (h' : Hp) => w = none ∧ ∃ gl, h gl = none ∧ h' gl = some (oB 0 [.int 0, .ref (gE G), .int (nI 0)]) ∧ h' a = some (oB 7 [.int k, .int n, .int s, .ref gl, .long 0, .int 0]) ∧ ∀ q, q ≠ a → q ≠ gl → h' q = h q) = Q0
  refine wp_aload_n (pc := 0) dX4_init_0 rfl rfl ?_
  refine wp_objInit (pc := 1) dX4_init_1 ob_X4_3 (Nat.le_of_ble_eq_true rfl) ⟨(Nat.le_of_ble_eq_true rfl), (Nat.le_of_ble_eq_true rfl)⟩ ?_
  refine wp_aload_n (pc := 4) dX4_init_4 rfl rfl ?_
  refine wp_new (pc := 5) (rc := 0) (rs := 0) (ci := 0) (fs := [.int 0, .null, .int 0]) dX4_init_5 nw_X4_9 rfl nd_0 (fun gl gln glg => ?_)
  refine wp_dup (pc := 8) dX4_init_8 rfl ?_
  refine wc_IN (pc := 9) (μ2 := mJx4a65c_init_da8c8) (rc := 0) (rs := 0) [] dX4_init_9 rfl cc_X4_11 rfl ⟨(Nat.le_of_ble_eq_true rfl), (Nat.le_of_ble_eq_true rfl)⟩ (Nat.le_of_ble_eq_true rfl) (j_init l G _ (up_s ..)) (fun h q => ?_)
  obtain ⟨hgl, hf0⟩ := q
  have hne : gl ≠ a := fun z => by rw [z, ha] at gln; cases gln
  have ha := (hf0 a (Ne.symm hne)).trans ((up_n _ (Ne.symm hne)).trans ha)
  have hf : ∀ q, q ≠ a → q ≠ gl → _ := fun q (_ : q ≠ a) (h2 : q ≠ gl) => (hf0 q h2).trans (up_n _ h2)
  refine wp_putC (pc := 12) dX4_init_12 fl_X4_12_7 ha (Or.inr ⟨rfl, rfl, rfl⟩) (Nat.le_of_ble_eq_true rfl) rfl rfl rfl (fun h ha hq2 => ?_)
  have hgl := (hq2 gl hne).trans hgl
  have hf := fun q (h1 : q ≠ a) (h2 : q ≠ gl) => (hq2 q h1).trans (hf q h1 h2)
  refine wp_aload_n (pc := 15) dX4_init_15 rfl rfl ?_
  refine wp_lconst (pc := 16) (v := 0) dX4_init_16 (by decide) ?_
  refine wp_putC (pc := 17) dX4_init_17 fl_X4_18_7 ha (Or.inl rfl) (Nat.le_of_ble_eq_true rfl) rfl rfl rfl (fun h ha hq2 => ?_)
  have hgl := (hq2 gl hne).trans hgl
  have hf := fun q (h1 : q ≠ a) (h2 : q ≠ gl) => (hq2 q h1).trans (hf q h1 h2)
  refine wp_aload_n (pc := 20) dX4_init_20 rfl rfl ?_
  refine wp_iload_n (pc := 21) dX4_init_21 rfl rfl ?_
  refine wp_putC (pc := 22) dX4_init_22 fl_X4_22_7 ha (Or.inr ⟨rfl, rfl, rfl⟩) (Nat.le_of_ble_eq_true rfl) rfl rfl rfl (fun h ha hq2 => ?_)
  have hgl := (hq2 gl hne).trans hgl
  have hf := fun q (h1 : q ≠ a) (h2 : q ≠ gl) => (hq2 q h1).trans (hf q h1 h2)
  refine wp_aload_n (pc := 25) dX4_init_25 rfl rfl ?_
  refine wp_iload_n (pc := 26) dX4_init_26 rfl rfl ?_
  refine wp_putC (pc := 27) dX4_init_27 fl_X4_26_7 ha (Or.inr ⟨rfl, rfl, rfl⟩) (Nat.le_of_ble_eq_true rfl) rfl rfl rfl (fun h ha hq2 => ?_)
  have hgl := (hq2 gl hne).trans hgl
  have hf := fun q (h1 : q ≠ a) (h2 : q ≠ gl) => (hq2 q h1).trans (hf q h1 h2)
  refine wp_aload_n (pc := 30) dX4_init_30 rfl rfl ?_
  refine wp_iload_n (pc := 31) dX4_init_31 rfl rfl ?_
  refine wp_putC (pc := 32) dX4_init_32 fl_X4_29_7 ha (Or.inr ⟨rfl, rfl, rfl⟩) (Nat.le_of_ble_eq_true rfl) rfl rfl rfl (fun h ha hq2 => ?_)
  have hgl := (hq2 gl hne).trans hgl
  have hf := fun q (h1 : q ≠ a) (h2 : q ≠ gl) => (hq2 q h1).trans (hf q h1 h2)
  exact wp_vret (pc := 35) dX4_init_35 rfl (by rw [← hQ0]; exact ⟨rfl, gl, gln, hgl, ha, hf⟩)
theorem c_i4_10 {a : Nat} {k n s : Int32} (h : Hp) (ha : h a = some (oB 10 [.int 0, .int 0, .int 0, .null, .long 0, .null, .int 0, .int 0, .long 0])) : SpN l G mX4_init [.ref a, .int k, .int n, .int s] h (fun h' => ∃ gl, h gl = none ∧ h' gl = some (oB 0 [.int 0, .ref (gE G), .int (nI 0)]) ∧ h' a = some (oB 10 [.int k, .int n, .int s, .ref gl, .long 0, .null, .int 0, .int 0, .long 0]) ∧ ∀ q, q ≠ a → q ≠ gl → h' q = h q) := by
  refine Sp.intro (lv := [_, _, _, _]) (by decide) rfl (Nat.le_of_ble_eq_true rfl) ?_
  refine wp_widen (rc' := 1) (rs' := 3) (Nat.le_refl _) (Nat.le_refl _) ?_
  generalize hQ0 : (fun (w : Option Value) (h' : Hp) => w = none ∧ ∃ gl, h gl = none ∧ h' gl = some (oB 0 [.int 0, .ref (gE G), .int (nI 0)]) ∧ h' a = some (oB 10 [.int k, .int n, .int s, .ref gl, .long 0, .null, .int 0, .int 0, .long 0]) ∧ ∀ q, q ≠ a → q ≠ gl → h' q = h q) = Q0
  refine wp_aload_n (pc := 0) dX4_init_0 rfl rfl ?_
  refine wp_objInit (pc := 1) dX4_init_1 ob_X4_3 (Nat.le_of_ble_eq_true rfl) ⟨(Nat.le_of_ble_eq_true rfl), (Nat.le_of_ble_eq_true rfl)⟩ ?_
  refine wp_aload_n (pc := 4) dX4_init_4 rfl rfl ?_
  refine wp_new (pc := 5) (rc := 0) (rs := 0) (ci := 0) (fs := [.int 0, .null, .int 0]) dX4_init_5 nw_X4_9 rfl nd_0 (fun gl gln glg => ?_)
  refine wp_dup (pc := 8) dX4_init_8 rfl ?_
  refine wc_IN (pc := 9) (μ2 := mJx4a65c_init_da8c8) (rc := 0) (rs := 0) [] dX4_init_9 rfl cc_X4_11 rfl ⟨(Nat.le_of_ble_eq_true rfl), (Nat.le_of_ble_eq_true rfl)⟩ (Nat.le_of_ble_eq_true rfl) (j_init l G _ (up_s ..)) (fun h q => ?_)
  obtain ⟨hgl, hf0⟩ := q
  have hne : gl ≠ a := fun z => by rw [z, ha] at gln; cases gln
  have ha := (hf0 a (Ne.symm hne)).trans ((up_n _ (Ne.symm hne)).trans ha)
  have hf : ∀ q, q ≠ a → q ≠ gl → _ := fun q (_ : q ≠ a) (h2 : q ≠ gl) => (hf0 q h2).trans (up_n _ h2)
  refine wp_putC (pc := 12) dX4_init_12 fl_X4_12_10 ha (Or.inr ⟨rfl, rfl, rfl⟩) (Nat.le_of_ble_eq_true rfl) rfl rfl rfl (fun h ha hq2 => ?_)
  have hgl := (hq2 gl hne).trans hgl
  have hf := fun q (h1 : q ≠ a) (h2 : q ≠ gl) => (hq2 q h1).trans (hf q h1 h2)
  refine wp_aload_n (pc := 15) dX4_init_15 rfl rfl ?_
  refine wp_lconst (pc := 16) (v := 0) dX4_init_16 (by decide) ?_
  refine wp_putC (pc := 17) dX4_init_17 fl_X4_18_10 ha (Or.inl rfl) (Nat.le_of_ble_eq_true rfl) rfl rfl rfl (fun h ha hq2 => ?_)
  have hgl := (hq2 gl hne).trans hgl
  have hf := fun q (h1 : q ≠ a) (h2 : q ≠ gl) => (hq2 q h1).trans (hf q h1 h2)
  refine wp_aload_n (pc := 20) dX4_init_20 rfl rfl ?_
  refine wp_iload_n (pc := 21) dX4_init_21 rfl rfl ?_
  refine wp_putC (pc := 22) dX4_init_22 fl_X4_22_10 ha (Or.inr ⟨rfl, rfl, rfl⟩) (Nat.le_of_ble_eq_true rfl) rfl rfl rfl (fun h ha hq2 => ?_)
  have hgl := (hq2 gl hne).trans hgl
  have hf := fun q (h1 : q ≠ a) (h2 : q ≠ gl) => (hq2 q h1).trans (hf q h1 h2)
  refine wp_aload_n (pc := 25) dX4_init_25 rfl rfl ?_
  refine wp_iload_n (pc := 26) dX4_init_26 rfl rfl ?_
  refine wp_putC (pc := 27) dX4_init_27 fl_X4_26_10 ha (Or.inr ⟨rfl, rfl, rfl⟩) (Nat.le_of_ble_eq_true rfl) rfl rfl rfl (fun h ha hq2 => ?_)
  have hgl := (hq2 gl hne).trans hgl
  have hf := fun q (h1 : q ≠ a) (h2 : q ≠ gl) => (hq2 q h1).trans (hf q h1 h2)
  refine wp_aload_n (pc := 30) dX4_init_30 rfl rfl ?_
  refine wp_iload_n (pc := 31) dX4_init_31 rfl rfl ?_
  refine wp_putC (pc := 32) dX4_init_32 fl_X4_29_10 ha (Or.inr ⟨rfl, rfl, rfl⟩) (Nat.le_of_ble_eq_true rfl) rfl rfl rfl (fun h ha hq2 => ?_)
  have hgl := (hq2 gl hne).trans hgl
  have hf := fun q (h1 : q ≠ a) (h2 : q ≠ gl) => (hq2 q h1).trans (hf q h1 h2)
  exact wp_vret (pc := 35) dX4_init_35 rfl (by rw [← hQ0]; exact ⟨rfl, gl, gln, hgl, ha, hf⟩)
end K11
