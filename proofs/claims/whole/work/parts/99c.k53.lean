/-! ===== the world at the law's entry ===== -/
theorem lw_classes {args : Array Value} {s : State} (hts : ∀ w ∈ lw_tbl, w.before args s = true) : ∃ D : va_G, ∀ (c : Nat) (q : vw_C), vwCl[c]? = some q → u_Kn s q.1 q.2.1 q.2.2 (D.1 c) (D.2 c) := by
  obtain ⟨c0, i0, h0⟩ := u_known (C := RJx4a65c) (T := TJx4a65c) (N := 3) (n := 3) hts in_0 (hts _ nw_X11_7.2.1)
  obtain ⟨c1, i1, h1⟩ := u_known (C := RX0) (T := TX0) (N := 6) (n := 6) hts in_1 (hts _ nw_X11_277.2.1)
  obtain ⟨c2, i2, h2⟩ := u_known (C := RX1) (T := TX1) (N := 5) (n := 5) hts in_2 (hts _ nw_X11_262.2.1)
  obtain ⟨c3, i3, h3⟩ := u_known (C := RX2) (T := TX2) (N := 10) (n := 10) hts in_3 (hts _ nw_X11_169.2.1)
  obtain ⟨c4, i4, h4⟩ := u_known (C := RX3) (T := TX3) (N := 6) (n := 6) hts in_4 (hts _ nw_X10_9.2.1)
  obtain ⟨c5, i5, h5⟩ := u_known (C := RX4) (T := TX4) (N := 5) (n := 5) hts in_5 (hts _ nw_X11_161.2.1)
  obtain ⟨c6, i6, h6⟩ := u_known (C := RX5) (T := TX5) (N := 3) (n := 3) hts in_6 (hts _ nw_X11_91.2.1)
  obtain ⟨c7, i7, h7⟩ := u_known (C := RX6) (T := TX6) (N := 6) (n := 6) hts in_7 (hts _ nw_X11_203.2.1)
  obtain ⟨c8, i8, h8⟩ := u_known (C := RX7) (T := TX7) (N := 5) (n := 5) hts in_8 (hts _ nw_X11_390.2.1)
  obtain ⟨c9, i9, h9⟩ := u_known (C := RX8) (T := TX8) (N := 4) (n := 4) hts in_9 (hts _ nw_X11_33.2.1)
  obtain ⟨c10, i10, h10⟩ := u_known (C := RX9) (T := TX9) (N := 9) (n := 9) hts in_10 (hts _ nw_X11_285.2.1)
  obtain ⟨c11, i11, h11⟩ := u_known (C := RX10) (T := TX10) (N := 5) (n := 5) hts in_11 (hts _ nw_X11_100.2.1)
  obtain ⟨c12, i12, h12⟩ := u_known (C := RX11) (T := TX11) (N := 18) (n := 18) hts in_12 (hts _ nw_L_7.2.1)
  obtain ⟨c13, i13, h13⟩ := u_known (C := RX12) (T := TX12) (N := 59) (n := 59) hts in_13 (hts _ nw_L_18.2.1)
  refine ⟨(fun k => match k with | 0 => c0 | 1 => c1 | 2 => c2 | 3 => c3 | 4 => c4 | 5 => c5 | 6 => c6 | 7 => c7 | 8 => c8 | 9 => c9 | 10 => c10 | 11 => c11 | 12 => c12 | _ => c13, fun k => match k with | 0 => i0 | 1 => i1 | 2 => i2 | 3 => i3 | 4 => i4 | 5 => i5 | 6 => i6 | 7 => i7 | 8 => i8 | 9 => i9 | 10 => i10 | 11 => i11 | 12 => i12 | _ => i13), fun k q hq => ?_⟩
  match k, hq with
  | 0, hq => cases hq; exact h0
  | 1, hq => cases hq; exact h1
  | 2, hq => cases hq; exact h2
  | 3, hq => cases hq; exact h3
  | 4, hq => cases hq; exact h4
  | 5, hq => cases hq; exact h5
  | 6, hq => cases hq; exact h6
  | 7, hq => cases hq; exact h7
  | 8, hq => cases hq; exact h8
  | 9, hq => cases hq; exact h9
  | 10, hq => cases hq; exact h10
  | 11, hq => cases hq; exact h11
  | 12, hq => cases hq; exact h12
  | 13, hq => cases hq; exact h13
  | k + 14, hq => simp [vwCl] at hq
theorem lw_nil {args : Array Value} {s : State} {C n d : String} (hex : (Cond.exactly (.static C n d) "[Ljava/lang/Object;").before args s = true) (hle : (Cond.eq (.length (.static C n d)) (.int 0)).before args s = true) : ∃ (a : Nat) (c : ClassId), (Term.static C n d).eval args s none [] s = some (.ref a) ∧ s.vm.findClass "[Ljava/lang/Object;" = some c ∧ nilAt c a s.heap := by
  obtain ⟨a, c, cell, k, e1, e2, e3, e4, e5, e6, -⟩ := Cond.exactly_spec hex
  have hl := va_eqt hle
  obtain ⟨t, cell2, ht, hat, hv⟩ := Term.length_spec hl
  cases e1.symm.trans ht
  have hsz : cell2.slots.size < 2 ^ 31 := by
    simp only [Term.eval, Option.bind_eq_bind] at hl
    have ht2 := ht
    simp only [Term.eval, Option.bind_eq_bind] at ht2
    simp only [ht2, hat, Option.bind_some] at hl
    by_cases hlt : cell2.slots.size < 2147483648
    · exact hlt
    · simp [hlt] at hl
  obtain ⟨hcell, -, -, -⟩ := State.arrayAt?_spec hat
  cases e3.symm.trans hcell
  refine ⟨a, c, ht, e2, cell, e3, e6, ?_, fun q hq => by rw [hq] at e5; cases e5⟩
  have h9 : nI 0 = nI cell.slots.size := Value.int.inj hv
  exact ((nI_eq (by decide) hsz).mp h9).symm
theorem nc_mem : ∀ q ∈ w_nocast, Cond.not (.castable q.1 q.2) ∈ flatC (Jvm.Cond.and given_1 narrow_1) := by decide +kernel
theorem wOO : Cond.arrayOver (.object "java/lang/Object") ∈ lw_tbl := tb1 (List.mem_of_getElem? (i := 230) rfl)
theorem wOM : Cond.arrayOver (.object "LeaseBoard$Memory") ∈ lw_tbl := tb2 (List.mem_of_getElem? (i := 9) rfl)
theorem wOT : Cond.arrayOver (.object "LeaseBoard$Tray") ∈ lw_tbl := tb1 (List.mem_of_getElem? (i := 60) rfl)
theorem wOA : Cond.arrayOver (.array .long) ∈ lw_tbl := tb1 (List.mem_of_getElem? (i := 58) rfl)
theorem wLS : Cond.laysStatic "java/util/ArrayList" "DEFAULTCAPACITY_EMPTY_ELEMENTDATA" "[Ljava/lang/Object;" ∈ lw_tbl := by decide +kernel
theorem wIA : Cond.initialized "java/util/ArrayList" ∈ lw_tbl := nw_X11_7.2.2
theorem lw_Nw {args : Array Value} {s : State} (hts : ∀ w ∈ lw_tbl, w.before args s = true) : ∀ w ∈ wn, va_Nw w s := by
  intro w hw
  obtain ⟨h1, h2⟩ := List.mem_filter.mp hw
  have h3 := hts w h1
  cases w <;> first | (simp at h2; done) | exact va_Nw.of rfl h3
def gYf (cI cJ cZ cO cM cT cA : ClassId) : Nat → ClassId
  | 0 => cI
  | 1 => cJ
  | 2 => cZ
  | 3 => cO
  | 4 => cM
  | 5 => cT
  | _ => cA
theorem lw_world {args : Array Value} {s : State} {b L : Nat} {xs : Nat → Int32} (hts : ∀ w ∈ lw_tbl, w.before args s = true) (hX : va_X b L xs s s.heap) (hgv : (Jvm.Cond.and given_1 narrow_1).before args s = true) : ∃ (D : va_G) (Y : Nat → ClassId) (aE mi : Nat), wK (D, Y, s.heap, aE, mi, b, L, xs) s ∧ wR (D, Y, s.heap, aE, mi, b, L, xs) (hE0 (D, Y, s.heap, aE, mi, b, L, xs)) s.heap := by
  have hs := flat_of_before _ hgv
  obtain ⟨D, hD⟩ := lw_classes hts
  obtain ⟨cI, kI, pI, a1, a2, a3⟩ := Cond.arrayClass_spec (hts _ wA0)
  obtain ⟨cJ, kJ, pJ, b1, b2, b3⟩ := Cond.arrayClass_spec (hts _ wA1)
  obtain ⟨cZ, kZ, pZ, d1, d2, d3⟩ := Cond.arrayClass_spec (hts _ wA2)
  obtain ⟨pO, cO, kO, o1, -, o2, o3, o4⟩ := Cond.arrayOver_spec (hts _ wOO)
  obtain ⟨pM, cM, kM, m1, -, m2, m3, m4⟩ := Cond.arrayOver_spec (hts _ wOM)
  obtain ⟨pT, cT, kT, t1, -, t2, t3, t4⟩ := Cond.arrayOver_spec (hts _ wOT)
  obtain ⟨pA, cA, kA, q1, -, q2, q3, q4⟩ := arrayOverA_spec (hts _ wOA)
  have hsA : (FieldType.array .long).toString = "[" ++ FieldType.long.toString := by decide +kernel
  have hpA : pA = cJ := by
    rw [hsA] at q1
    exact Option.some.inj (q1.symm.trans b1)
  obtain ⟨mi, hMi⟩ := va_Mi.of (hs (Cond.isRef (.mirror "[Ljava/lang/Object;")) (by decide +kernel))
  obtain ⟨aE, cE, n1, n2, n3⟩ := lw_nil (hs (Cond.exactly (.static "java/util/ArrayList" "DEFAULTCAPACITY_EMPTY_ELEMENTDATA" "[Ljava/lang/Object;") "[Ljava/lang/Object;") (by decide +kernel)) (hs (Cond.eq (.length (.static "java/util/ArrayList" "DEFAULTCAPACITY_EMPTY_ELEMENTDATA" "[Ljava/lang/Object;")) (.int 0)) (by decide +kernel))
  have hsO : ("[" ++ (FieldType.object "java/lang/Object").toString) = "[Ljava/lang/Object;" := by decide +kernel
  have hcE : cE = cO := by
    have o5 := o4
    rw [hsO] at o5
    exact Option.some.inj (n2.symm.trans o5)
  rw [hcE] at n3
  rw [hpA] at q3
  have hZ : va_Z "java/util/ArrayList" "DEFAULTCAPACITY_EMPTY_ELEMENTDATA" "[Ljava/lang/Object;" (.ref aE) (fun q => s.heap.size ≤ q) s s.heap := va_Zof (hts _ wLS) (hts _ wIA) n1 (fun a ha z => by omega)
  refine ⟨D, gYf cI cJ cZ cO cM cT cA, aE, mi, ⟨⟨hD, fun k q hk => ?_⟩, hX, hZ, hMi, fun q hq => va_Nc.of (hs _ (nc_mem q hq)), lw_Nw hts, va_AO.of (hts _ wOO), va_AO.of (hts _ wOM), va_AO.of (hts _ wOT), kA, q2, q3⟩, Nat.le_refl _, fun _ _ => rfl, fun a e ha => ?_⟩
  · match k, hk with
    | 0, hk => cases hk; exact ⟨fun n z => ⟨(fun _ h => by cases h), kI, a2, pI, a3⟩, a1⟩
    | 1, hk => cases hk; exact ⟨fun n z => ⟨(fun _ h => by cases h), kJ, b2, pJ, b3⟩, b1⟩
    | 2, hk => cases hk; exact ⟨fun n z => ⟨(fun _ h => by cases h), kZ, d2, pZ, d3⟩, d1⟩
    | 3, hk => cases hk; exact ⟨fun n z => ⟨(fun _ h => by cases h), kO, o2, pO, o3⟩, kO, pO, o2, o3, o1, o4⟩
    | 4, hk => cases hk; exact ⟨fun n z => ⟨(fun _ h => by cases h), kM, m2, pM, m3⟩, kM, pM, m2, m3, m1, m4⟩
    | 5, hk => cases hk; exact ⟨fun n z => ⟨(fun _ h => by cases h), kT, t2, pT, t3⟩, kT, pT, t2, t3, t1, t4⟩
    | 6, hk => cases hk; exact ⟨fun n z => ⟨(fun _ h => by cases h), kA, q2, cJ, q3⟩, q4⟩
    | k + 7, hk => simp [w_tys] at hk
  · unfold hE0 at ha
    by_cases z : a = aE
    · rw [if_pos z] at ha
      cases ha
      rw [z]
      exact Or.inr ⟨rfl, n3⟩
    · rw [if_neg z] at ha; cases ha
