theorem wp_lcmp_eq {l : Launch} {G : WG} {μ : MI} {Z : WZ} {pc : Nat} {lv : List (Option Value)} {st : List Value} {h : Hp} {rc rs : Nat} {x y : Int64} {off : Int} {tgt : Nat} (hd : decode (mC μ) pc = .ok (.lcmp, 1)) (hd2 : decode (mC μ) (pc + 1) = .ok (.ifCond .eq off, 3)) (ht : ((pc + 1 : Nat) : Int) + off = (tgt : Int)) (kt : x = y → wp l G μ Z tgt lv st h rc rs) (kf : ¬ (x = y) → wp l G μ Z (pc + 1 + 3) lv st h rc rs) : wp l G μ Z pc lv (.long y :: .long x :: st) h rc rs :=
  wp_lcmp hd (wp_if_eq hd2 ht (fun z => kt ((lg_cmp_eq x y).mp z)) (fun z => kf (fun q => z ((lg_cmp_eq x y).mpr q))))
theorem wp_lcmp_ne {l : Launch} {G : WG} {μ : MI} {Z : WZ} {pc : Nat} {lv : List (Option Value)} {st : List Value} {h : Hp} {rc rs : Nat} {x y : Int64} {off : Int} {tgt : Nat} (hd : decode (mC μ) pc = .ok (.lcmp, 1)) (hd2 : decode (mC μ) (pc + 1) = .ok (.ifCond .ne off, 3)) (ht : ((pc + 1 : Nat) : Int) + off = (tgt : Int)) (kt : ¬ x = y → wp l G μ Z tgt lv st h rc rs) (kf : x = y → wp l G μ Z (pc + 1 + 3) lv st h rc rs) : wp l G μ Z pc lv (.long y :: .long x :: st) h rc rs :=
  wp_lcmp hd (wp_if_ne hd2 ht (fun z => kt (fun q => z ((lg_cmp_eq x y).mpr q))) (fun z => kf ((lg_cmp_eq x y).mp z)))
theorem wp_lcmp_lt {l : Launch} {G : WG} {μ : MI} {Z : WZ} {pc : Nat} {lv : List (Option Value)} {st : List Value} {h : Hp} {rc rs : Nat} {x y : Int64} {off : Int} {tgt : Nat} (hd : decode (mC μ) pc = .ok (.lcmp, 1)) (hd2 : decode (mC μ) (pc + 1) = .ok (.ifCond .lt off, 3)) (ht : ((pc + 1 : Nat) : Int) + off = (tgt : Int)) (kt : x < y → wp l G μ Z tgt lv st h rc rs) (kf : ¬ (x < y) → wp l G μ Z (pc + 1 + 3) lv st h rc rs) : wp l G μ Z pc lv (.long y :: .long x :: st) h rc rs :=
  wp_lcmp hd (wp_if_lt hd2 ht (fun z => kt ((lg_cmp_lt x y).mp z)) (fun z => kf (fun q => z ((lg_cmp_lt x y).mpr q))))
theorem wp_lcmp_ge {l : Launch} {G : WG} {μ : MI} {Z : WZ} {pc : Nat} {lv : List (Option Value)} {st : List Value} {h : Hp} {rc rs : Nat} {x y : Int64} {off : Int} {tgt : Nat} (hd : decode (mC μ) pc = .ok (.lcmp, 1)) (hd2 : decode (mC μ) (pc + 1) = .ok (.ifCond .ge off, 3)) (ht : ((pc + 1 : Nat) : Int) + off = (tgt : Int)) (kt : y ≤ x → wp l G μ Z tgt lv st h rc rs) (kf : ¬ (y ≤ x) → wp l G μ Z (pc + 1 + 3) lv st h rc rs) : wp l G μ Z pc lv (.long y :: .long x :: st) h rc rs :=
  wp_lcmp hd (wp_if_ge hd2 ht (fun z => kt ((lg_cmp_ge x y).mp z)) (fun z => kf (fun q => z ((lg_cmp_ge x y).mpr q))))
theorem wp_lcmp_gt {l : Launch} {G : WG} {μ : MI} {Z : WZ} {pc : Nat} {lv : List (Option Value)} {st : List Value} {h : Hp} {rc rs : Nat} {x y : Int64} {off : Int} {tgt : Nat} (hd : decode (mC μ) pc = .ok (.lcmp, 1)) (hd2 : decode (mC μ) (pc + 1) = .ok (.ifCond .gt off, 3)) (ht : ((pc + 1 : Nat) : Int) + off = (tgt : Int)) (kt : y < x → wp l G μ Z tgt lv st h rc rs) (kf : ¬ (y < x) → wp l G μ Z (pc + 1 + 3) lv st h rc rs) : wp l G μ Z pc lv (.long y :: .long x :: st) h rc rs :=
  wp_lcmp hd (wp_if_gt hd2 ht (fun z => kt ((lg_cmp_gt x y).mp z)) (fun z => kf (fun q => z ((lg_cmp_gt x y).mpr q))))
theorem wp_lcmp_le {l : Launch} {G : WG} {μ : MI} {Z : WZ} {pc : Nat} {lv : List (Option Value)} {st : List Value} {h : Hp} {rc rs : Nat} {x y : Int64} {off : Int} {tgt : Nat} (hd : decode (mC μ) pc = .ok (.lcmp, 1)) (hd2 : decode (mC μ) (pc + 1) = .ok (.ifCond .le off, 3)) (ht : ((pc + 1 : Nat) : Int) + off = (tgt : Int)) (kt : x ≤ y → wp l G μ Z tgt lv st h rc rs) (kf : ¬ (x ≤ y) → wp l G μ Z (pc + 1 + 3) lv st h rc rs) : wp l G μ Z pc lv (.long y :: .long x :: st) h rc rs :=
  wp_lcmp hd (wp_if_le hd2 ht (fun z => kt ((lg_cmp_le x y).mp z)) (fun z => kf (fun q => z ((lg_cmp_le x y).mpr q))))
set_option maxRecDepth 10000 in
theorem wp_tsw_0_2 {l : Launch} {G : WG} {μ : MI} {Z : WZ} {pc : Nat} {lv : List (Option Value)} {st : List Value} {h : Hp} {rc rs : Nat} {dflt : Int} {o0 o1 o2 : Int} {len : Nat} {x : Int32} {t0 t1 t2 td : Nat} (hd : decode (mC μ) pc = .ok (.tableswitch dflt 0 2 #[o0, o1, o2], len)) (e0 : (pc : Int) + o0 = (t0 : Int)) (e1 : (pc : Int) + o1 = (t1 : Int)) (e2 : (pc : Int) + o2 = (t2 : Int)) (ed : (pc : Int) + dflt = (td : Int)) (k0 : x = 0 → wp l G μ Z t0 lv st h rc rs) (k1 : x = 1 → wp l G μ Z t1 lv st h rc rs) (k2 : x = 2 → wp l G μ Z t2 lv st h rc rs) (kd : (x < 0 ∨ 2 < x) → wp l G μ Z td lv st h rc rs) : wp l G μ Z pc lv (.int x :: st) h rc rs := by
  by_cases hlo : x.toInt < 0
  · exact wp_tableOut hd (Or.inl hlo) ed (kd (Or.inl (Int32.lt_iff_toInt_lt.mpr (by simpa using hlo))))
  · by_cases hhi : (2 : Int) < x.toInt
    · exact wp_tableOut hd (Or.inr hhi) ed (kd (Or.inr (Int32.lt_iff_toInt_lt.mpr (by simpa using hhi))))
    · have hc : x.toInt = 0 ∨ x.toInt = 1 ∨ x.toInt = 2 := by omega
      rcases hc with hc | hc | hc
      · exact wp_tableIn hd hlo hhi (off := o0) (by rw [hc]; rfl) e0 (k0 (Int32.toInt_inj.mp (by rw [hc]; decide)))
      · exact wp_tableIn hd hlo hhi (off := o1) (by rw [hc]; rfl) e1 (k1 (Int32.toInt_inj.mp (by rw [hc]; decide)))
      · exact wp_tableIn hd hlo hhi (off := o2) (by rw [hc]; rfl) e2 (k2 (Int32.toInt_inj.mp (by rw [hc]; decide)))
set_option maxRecDepth 10000 in
theorem wp_tsw_0_3 {l : Launch} {G : WG} {μ : MI} {Z : WZ} {pc : Nat} {lv : List (Option Value)} {st : List Value} {h : Hp} {rc rs : Nat} {dflt : Int} {o0 o1 o2 o3 : Int} {len : Nat} {x : Int32} {t0 t1 t2 t3 td : Nat} (hd : decode (mC μ) pc = .ok (.tableswitch dflt 0 3 #[o0, o1, o2, o3], len)) (e0 : (pc : Int) + o0 = (t0 : Int)) (e1 : (pc : Int) + o1 = (t1 : Int)) (e2 : (pc : Int) + o2 = (t2 : Int)) (e3 : (pc : Int) + o3 = (t3 : Int)) (ed : (pc : Int) + dflt = (td : Int)) (k0 : x = 0 → wp l G μ Z t0 lv st h rc rs) (k1 : x = 1 → wp l G μ Z t1 lv st h rc rs) (k2 : x = 2 → wp l G μ Z t2 lv st h rc rs) (k3 : x = 3 → wp l G μ Z t3 lv st h rc rs) (kd : (x < 0 ∨ 3 < x) → wp l G μ Z td lv st h rc rs) : wp l G μ Z pc lv (.int x :: st) h rc rs := by
  by_cases hlo : x.toInt < 0
  · exact wp_tableOut hd (Or.inl hlo) ed (kd (Or.inl (Int32.lt_iff_toInt_lt.mpr (by simpa using hlo))))
  · by_cases hhi : (3 : Int) < x.toInt
    · exact wp_tableOut hd (Or.inr hhi) ed (kd (Or.inr (Int32.lt_iff_toInt_lt.mpr (by simpa using hhi))))
    · have hc : x.toInt = 0 ∨ x.toInt = 1 ∨ x.toInt = 2 ∨ x.toInt = 3 := by omega
      rcases hc with hc | hc | hc | hc
      · exact wp_tableIn hd hlo hhi (off := o0) (by rw [hc]; rfl) e0 (k0 (Int32.toInt_inj.mp (by rw [hc]; decide)))
      · exact wp_tableIn hd hlo hhi (off := o1) (by rw [hc]; rfl) e1 (k1 (Int32.toInt_inj.mp (by rw [hc]; decide)))
      · exact wp_tableIn hd hlo hhi (off := o2) (by rw [hc]; rfl) e2 (k2 (Int32.toInt_inj.mp (by rw [hc]; decide)))
      · exact wp_tableIn hd hlo hhi (off := o3) (by rw [hc]; rfl) e3 (k3 (Int32.toInt_inj.mp (by rw [hc]; decide)))
set_option maxRecDepth 10000 in
theorem wp_tsw_0_4 {l : Launch} {G : WG} {μ : MI} {Z : WZ} {pc : Nat} {lv : List (Option Value)} {st : List Value} {h : Hp} {rc rs : Nat} {dflt : Int} {o0 o1 o2 o3 o4 : Int} {len : Nat} {x : Int32} {t0 t1 t2 t3 t4 td : Nat} (hd : decode (mC μ) pc = .ok (.tableswitch dflt 0 4 #[o0, o1, o2, o3, o4], len)) (e0 : (pc : Int) + o0 = (t0 : Int)) (e1 : (pc : Int) + o1 = (t1 : Int)) (e2 : (pc : Int) + o2 = (t2 : Int)) (e3 : (pc : Int) + o3 = (t3 : Int)) (e4 : (pc : Int) + o4 = (t4 : Int)) (ed : (pc : Int) + dflt = (td : Int)) (k0 : x = 0 → wp l G μ Z t0 lv st h rc rs) (k1 : x = 1 → wp l G μ Z t1 lv st h rc rs) (k2 : x = 2 → wp l G μ Z t2 lv st h rc rs) (k3 : x = 3 → wp l G μ Z t3 lv st h rc rs) (k4 : x = 4 → wp l G μ Z t4 lv st h rc rs) (kd : (x < 0 ∨ 4 < x) → wp l G μ Z td lv st h rc rs) : wp l G μ Z pc lv (.int x :: st) h rc rs := by
  by_cases hlo : x.toInt < 0
  · exact wp_tableOut hd (Or.inl hlo) ed (kd (Or.inl (Int32.lt_iff_toInt_lt.mpr (by simpa using hlo))))
  · by_cases hhi : (4 : Int) < x.toInt
    · exact wp_tableOut hd (Or.inr hhi) ed (kd (Or.inr (Int32.lt_iff_toInt_lt.mpr (by simpa using hhi))))
    · have hc : x.toInt = 0 ∨ x.toInt = 1 ∨ x.toInt = 2 ∨ x.toInt = 3 ∨ x.toInt = 4 := by omega
      rcases hc with hc | hc | hc | hc | hc
      · exact wp_tableIn hd hlo hhi (off := o0) (by rw [hc]; rfl) e0 (k0 (Int32.toInt_inj.mp (by rw [hc]; decide)))
      · exact wp_tableIn hd hlo hhi (off := o1) (by rw [hc]; rfl) e1 (k1 (Int32.toInt_inj.mp (by rw [hc]; decide)))
      · exact wp_tableIn hd hlo hhi (off := o2) (by rw [hc]; rfl) e2 (k2 (Int32.toInt_inj.mp (by rw [hc]; decide)))
      · exact wp_tableIn hd hlo hhi (off := o3) (by rw [hc]; rfl) e3 (k3 (Int32.toInt_inj.mp (by rw [hc]; decide)))
      · exact wp_tableIn hd hlo hhi (off := o4) (by rw [hc]; rfl) e4 (k4 (Int32.toInt_inj.mp (by rw [hc]; decide)))
set_option maxRecDepth 10000 in
theorem wp_tsw_0_5 {l : Launch} {G : WG} {μ : MI} {Z : WZ} {pc : Nat} {lv : List (Option Value)} {st : List Value} {h : Hp} {rc rs : Nat} {dflt : Int} {o0 o1 o2 o3 o4 o5 : Int} {len : Nat} {x : Int32} {t0 t1 t2 t3 t4 t5 td : Nat} (hd : decode (mC μ) pc = .ok (.tableswitch dflt 0 5 #[o0, o1, o2, o3, o4, o5], len)) (e0 : (pc : Int) + o0 = (t0 : Int)) (e1 : (pc : Int) + o1 = (t1 : Int)) (e2 : (pc : Int) + o2 = (t2 : Int)) (e3 : (pc : Int) + o3 = (t3 : Int)) (e4 : (pc : Int) + o4 = (t4 : Int)) (e5 : (pc : Int) + o5 = (t5 : Int)) (ed : (pc : Int) + dflt = (td : Int)) (k0 : x = 0 → wp l G μ Z t0 lv st h rc rs) (k1 : x = 1 → wp l G μ Z t1 lv st h rc rs) (k2 : x = 2 → wp l G μ Z t2 lv st h rc rs) (k3 : x = 3 → wp l G μ Z t3 lv st h rc rs) (k4 : x = 4 → wp l G μ Z t4 lv st h rc rs) (k5 : x = 5 → wp l G μ Z t5 lv st h rc rs) (kd : (x < 0 ∨ 5 < x) → wp l G μ Z td lv st h rc rs) : wp l G μ Z pc lv (.int x :: st) h rc rs := by
  by_cases hlo : x.toInt < 0
  · exact wp_tableOut hd (Or.inl hlo) ed (kd (Or.inl (Int32.lt_iff_toInt_lt.mpr (by simpa using hlo))))
  · by_cases hhi : (5 : Int) < x.toInt
    · exact wp_tableOut hd (Or.inr hhi) ed (kd (Or.inr (Int32.lt_iff_toInt_lt.mpr (by simpa using hhi))))
    · have hc : x.toInt = 0 ∨ x.toInt = 1 ∨ x.toInt = 2 ∨ x.toInt = 3 ∨ x.toInt = 4 ∨ x.toInt = 5 := by omega
      rcases hc with hc | hc | hc | hc | hc | hc
      · exact wp_tableIn hd hlo hhi (off := o0) (by rw [hc]; rfl) e0 (k0 (Int32.toInt_inj.mp (by rw [hc]; decide)))
      · exact wp_tableIn hd hlo hhi (off := o1) (by rw [hc]; rfl) e1 (k1 (Int32.toInt_inj.mp (by rw [hc]; decide)))
      · exact wp_tableIn hd hlo hhi (off := o2) (by rw [hc]; rfl) e2 (k2 (Int32.toInt_inj.mp (by rw [hc]; decide)))
      · exact wp_tableIn hd hlo hhi (off := o3) (by rw [hc]; rfl) e3 (k3 (Int32.toInt_inj.mp (by rw [hc]; decide)))
      · exact wp_tableIn hd hlo hhi (off := o4) (by rw [hc]; rfl) e4 (k4 (Int32.toInt_inj.mp (by rw [hc]; decide)))
      · exact wp_tableIn hd hlo hhi (off := o5) (by rw [hc]; rfl) e5 (k5 (Int32.toInt_inj.mp (by rw [hc]; decide)))
set_option maxRecDepth 10000 in
theorem wp_tsw_0_6 {l : Launch} {G : WG} {μ : MI} {Z : WZ} {pc : Nat} {lv : List (Option Value)} {st : List Value} {h : Hp} {rc rs : Nat} {dflt : Int} {o0 o1 o2 o3 o4 o5 o6 : Int} {len : Nat} {x : Int32} {t0 t1 t2 t3 t4 t5 t6 td : Nat} (hd : decode (mC μ) pc = .ok (.tableswitch dflt 0 6 #[o0, o1, o2, o3, o4, o5, o6], len)) (e0 : (pc : Int) + o0 = (t0 : Int)) (e1 : (pc : Int) + o1 = (t1 : Int)) (e2 : (pc : Int) + o2 = (t2 : Int)) (e3 : (pc : Int) + o3 = (t3 : Int)) (e4 : (pc : Int) + o4 = (t4 : Int)) (e5 : (pc : Int) + o5 = (t5 : Int)) (e6 : (pc : Int) + o6 = (t6 : Int)) (ed : (pc : Int) + dflt = (td : Int)) (k0 : x = 0 → wp l G μ Z t0 lv st h rc rs) (k1 : x = 1 → wp l G μ Z t1 lv st h rc rs) (k2 : x = 2 → wp l G μ Z t2 lv st h rc rs) (k3 : x = 3 → wp l G μ Z t3 lv st h rc rs) (k4 : x = 4 → wp l G μ Z t4 lv st h rc rs) (k5 : x = 5 → wp l G μ Z t5 lv st h rc rs) (k6 : x = 6 → wp l G μ Z t6 lv st h rc rs) (kd : (x < 0 ∨ 6 < x) → wp l G μ Z td lv st h rc rs) : wp l G μ Z pc lv (.int x :: st) h rc rs := by
  by_cases hlo : x.toInt < 0
  · exact wp_tableOut hd (Or.inl hlo) ed (kd (Or.inl (Int32.lt_iff_toInt_lt.mpr (by simpa using hlo))))
  · by_cases hhi : (6 : Int) < x.toInt
    · exact wp_tableOut hd (Or.inr hhi) ed (kd (Or.inr (Int32.lt_iff_toInt_lt.mpr (by simpa using hhi))))
    · have hc : x.toInt = 0 ∨ x.toInt = 1 ∨ x.toInt = 2 ∨ x.toInt = 3 ∨ x.toInt = 4 ∨ x.toInt = 5 ∨ x.toInt = 6 := by omega
      rcases hc with hc | hc | hc | hc | hc | hc | hc
      · exact wp_tableIn hd hlo hhi (off := o0) (by rw [hc]; rfl) e0 (k0 (Int32.toInt_inj.mp (by rw [hc]; decide)))
      · exact wp_tableIn hd hlo hhi (off := o1) (by rw [hc]; rfl) e1 (k1 (Int32.toInt_inj.mp (by rw [hc]; decide)))
      · exact wp_tableIn hd hlo hhi (off := o2) (by rw [hc]; rfl) e2 (k2 (Int32.toInt_inj.mp (by rw [hc]; decide)))
      · exact wp_tableIn hd hlo hhi (off := o3) (by rw [hc]; rfl) e3 (k3 (Int32.toInt_inj.mp (by rw [hc]; decide)))
      · exact wp_tableIn hd hlo hhi (off := o4) (by rw [hc]; rfl) e4 (k4 (Int32.toInt_inj.mp (by rw [hc]; decide)))
      · exact wp_tableIn hd hlo hhi (off := o5) (by rw [hc]; rfl) e5 (k5 (Int32.toInt_inj.mp (by rw [hc]; decide)))
      · exact wp_tableIn hd hlo hhi (off := o6) (by rw [hc]; rfl) e6 (k6 (Int32.toInt_inj.mp (by rw [hc]; decide)))
set_option maxRecDepth 10000 in
theorem wp_tsw_0_7 {l : Launch} {G : WG} {μ : MI} {Z : WZ} {pc : Nat} {lv : List (Option Value)} {st : List Value} {h : Hp} {rc rs : Nat} {dflt : Int} {o0 o1 o2 o3 o4 o5 o6 o7 : Int} {len : Nat} {x : Int32} {t0 t1 t2 t3 t4 t5 t6 t7 td : Nat} (hd : decode (mC μ) pc = .ok (.tableswitch dflt 0 7 #[o0, o1, o2, o3, o4, o5, o6, o7], len)) (e0 : (pc : Int) + o0 = (t0 : Int)) (e1 : (pc : Int) + o1 = (t1 : Int)) (e2 : (pc : Int) + o2 = (t2 : Int)) (e3 : (pc : Int) + o3 = (t3 : Int)) (e4 : (pc : Int) + o4 = (t4 : Int)) (e5 : (pc : Int) + o5 = (t5 : Int)) (e6 : (pc : Int) + o6 = (t6 : Int)) (e7 : (pc : Int) + o7 = (t7 : Int)) (ed : (pc : Int) + dflt = (td : Int)) (k0 : x = 0 → wp l G μ Z t0 lv st h rc rs) (k1 : x = 1 → wp l G μ Z t1 lv st h rc rs) (k2 : x = 2 → wp l G μ Z t2 lv st h rc rs) (k3 : x = 3 → wp l G μ Z t3 lv st h rc rs) (k4 : x = 4 → wp l G μ Z t4 lv st h rc rs) (k5 : x = 5 → wp l G μ Z t5 lv st h rc rs) (k6 : x = 6 → wp l G μ Z t6 lv st h rc rs) (k7 : x = 7 → wp l G μ Z t7 lv st h rc rs) (kd : (x < 0 ∨ 7 < x) → wp l G μ Z td lv st h rc rs) : wp l G μ Z pc lv (.int x :: st) h rc rs := by
  by_cases hlo : x.toInt < 0
  · exact wp_tableOut hd (Or.inl hlo) ed (kd (Or.inl (Int32.lt_iff_toInt_lt.mpr (by simpa using hlo))))
  · by_cases hhi : (7 : Int) < x.toInt
    · exact wp_tableOut hd (Or.inr hhi) ed (kd (Or.inr (Int32.lt_iff_toInt_lt.mpr (by simpa using hhi))))
    · have hc : x.toInt = 0 ∨ x.toInt = 1 ∨ x.toInt = 2 ∨ x.toInt = 3 ∨ x.toInt = 4 ∨ x.toInt = 5 ∨ x.toInt = 6 ∨ x.toInt = 7 := by omega
      rcases hc with hc | hc | hc | hc | hc | hc | hc | hc
      · exact wp_tableIn hd hlo hhi (off := o0) (by rw [hc]; rfl) e0 (k0 (Int32.toInt_inj.mp (by rw [hc]; decide)))
      · exact wp_tableIn hd hlo hhi (off := o1) (by rw [hc]; rfl) e1 (k1 (Int32.toInt_inj.mp (by rw [hc]; decide)))
      · exact wp_tableIn hd hlo hhi (off := o2) (by rw [hc]; rfl) e2 (k2 (Int32.toInt_inj.mp (by rw [hc]; decide)))
      · exact wp_tableIn hd hlo hhi (off := o3) (by rw [hc]; rfl) e3 (k3 (Int32.toInt_inj.mp (by rw [hc]; decide)))
      · exact wp_tableIn hd hlo hhi (off := o4) (by rw [hc]; rfl) e4 (k4 (Int32.toInt_inj.mp (by rw [hc]; decide)))
      · exact wp_tableIn hd hlo hhi (off := o5) (by rw [hc]; rfl) e5 (k5 (Int32.toInt_inj.mp (by rw [hc]; decide)))
      · exact wp_tableIn hd hlo hhi (off := o6) (by rw [hc]; rfl) e6 (k6 (Int32.toInt_inj.mp (by rw [hc]; decide)))
      · exact wp_tableIn hd hlo hhi (off := o7) (by rw [hc]; rfl) e7 (k7 (Int32.toInt_inj.mp (by rw [hc]; decide)))
set_option maxRecDepth 10000 in
theorem wp_tsw_0_8 {l : Launch} {G : WG} {μ : MI} {Z : WZ} {pc : Nat} {lv : List (Option Value)} {st : List Value} {h : Hp} {rc rs : Nat} {dflt : Int} {o0 o1 o2 o3 o4 o5 o6 o7 o8 : Int} {len : Nat} {x : Int32} {t0 t1 t2 t3 t4 t5 t6 t7 t8 td : Nat} (hd : decode (mC μ) pc = .ok (.tableswitch dflt 0 8 #[o0, o1, o2, o3, o4, o5, o6, o7, o8], len)) (e0 : (pc : Int) + o0 = (t0 : Int)) (e1 : (pc : Int) + o1 = (t1 : Int)) (e2 : (pc : Int) + o2 = (t2 : Int)) (e3 : (pc : Int) + o3 = (t3 : Int)) (e4 : (pc : Int) + o4 = (t4 : Int)) (e5 : (pc : Int) + o5 = (t5 : Int)) (e6 : (pc : Int) + o6 = (t6 : Int)) (e7 : (pc : Int) + o7 = (t7 : Int)) (e8 : (pc : Int) + o8 = (t8 : Int)) (ed : (pc : Int) + dflt = (td : Int)) (k0 : x = 0 → wp l G μ Z t0 lv st h rc rs) (k1 : x = 1 → wp l G μ Z t1 lv st h rc rs) (k2 : x = 2 → wp l G μ Z t2 lv st h rc rs) (k3 : x = 3 → wp l G μ Z t3 lv st h rc rs) (k4 : x = 4 → wp l G μ Z t4 lv st h rc rs) (k5 : x = 5 → wp l G μ Z t5 lv st h rc rs) (k6 : x = 6 → wp l G μ Z t6 lv st h rc rs) (k7 : x = 7 → wp l G μ Z t7 lv st h rc rs) (k8 : x = 8 → wp l G μ Z t8 lv st h rc rs) (kd : (x < 0 ∨ 8 < x) → wp l G μ Z td lv st h rc rs) : wp l G μ Z pc lv (.int x :: st) h rc rs := by
  by_cases hlo : x.toInt < 0
  · exact wp_tableOut hd (Or.inl hlo) ed (kd (Or.inl (Int32.lt_iff_toInt_lt.mpr (by simpa using hlo))))
  · by_cases hhi : (8 : Int) < x.toInt
    · exact wp_tableOut hd (Or.inr hhi) ed (kd (Or.inr (Int32.lt_iff_toInt_lt.mpr (by simpa using hhi))))
    · have hc : x.toInt = 0 ∨ x.toInt = 1 ∨ x.toInt = 2 ∨ x.toInt = 3 ∨ x.toInt = 4 ∨ x.toInt = 5 ∨ x.toInt = 6 ∨ x.toInt = 7 ∨ x.toInt = 8 := by omega
      rcases hc with hc | hc | hc | hc | hc | hc | hc | hc | hc
      · exact wp_tableIn hd hlo hhi (off := o0) (by rw [hc]; rfl) e0 (k0 (Int32.toInt_inj.mp (by rw [hc]; decide)))
      · exact wp_tableIn hd hlo hhi (off := o1) (by rw [hc]; rfl) e1 (k1 (Int32.toInt_inj.mp (by rw [hc]; decide)))
      · exact wp_tableIn hd hlo hhi (off := o2) (by rw [hc]; rfl) e2 (k2 (Int32.toInt_inj.mp (by rw [hc]; decide)))
      · exact wp_tableIn hd hlo hhi (off := o3) (by rw [hc]; rfl) e3 (k3 (Int32.toInt_inj.mp (by rw [hc]; decide)))
      · exact wp_tableIn hd hlo hhi (off := o4) (by rw [hc]; rfl) e4 (k4 (Int32.toInt_inj.mp (by rw [hc]; decide)))
      · exact wp_tableIn hd hlo hhi (off := o5) (by rw [hc]; rfl) e5 (k5 (Int32.toInt_inj.mp (by rw [hc]; decide)))
      · exact wp_tableIn hd hlo hhi (off := o6) (by rw [hc]; rfl) e6 (k6 (Int32.toInt_inj.mp (by rw [hc]; decide)))
      · exact wp_tableIn hd hlo hhi (off := o7) (by rw [hc]; rfl) e7 (k7 (Int32.toInt_inj.mp (by rw [hc]; decide)))
      · exact wp_tableIn hd hlo hhi (off := o8) (by rw [hc]; rfl) e8 (k8 (Int32.toInt_inj.mp (by rw [hc]; decide)))
set_option maxRecDepth 10000 in
theorem wp_tsw_0_14 {l : Launch} {G : WG} {μ : MI} {Z : WZ} {pc : Nat} {lv : List (Option Value)} {st : List Value} {h : Hp} {rc rs : Nat} {dflt : Int} {o0 o1 o2 o3 o4 o5 o6 o7 o8 o9 o10 o11 o12 o13 o14 : Int} {len : Nat} {x : Int32} {t0 t1 t2 t3 t4 t5 t6 t7 t8 t9 t10 t11 t12 t13 t14 td : Nat} (hd : decode (mC μ) pc = .ok (.tableswitch dflt 0 14 #[o0, o1, o2, o3, o4, o5, o6, o7, o8, o9, o10, o11, o12, o13, o14], len)) (e0 : (pc : Int) + o0 = (t0 : Int)) (e1 : (pc : Int) + o1 = (t1 : Int)) (e2 : (pc : Int) + o2 = (t2 : Int)) (e3 : (pc : Int) + o3 = (t3 : Int)) (e4 : (pc : Int) + o4 = (t4 : Int)) (e5 : (pc : Int) + o5 = (t5 : Int)) (e6 : (pc : Int) + o6 = (t6 : Int)) (e7 : (pc : Int) + o7 = (t7 : Int)) (e8 : (pc : Int) + o8 = (t8 : Int)) (e9 : (pc : Int) + o9 = (t9 : Int)) (e10 : (pc : Int) + o10 = (t10 : Int)) (e11 : (pc : Int) + o11 = (t11 : Int)) (e12 : (pc : Int) + o12 = (t12 : Int)) (e13 : (pc : Int) + o13 = (t13 : Int)) (e14 : (pc : Int) + o14 = (t14 : Int)) (ed : (pc : Int) + dflt = (td : Int)) (k0 : x = 0 → wp l G μ Z t0 lv st h rc rs) (k1 : x = 1 → wp l G μ Z t1 lv st h rc rs) (k2 : x = 2 → wp l G μ Z t2 lv st h rc rs) (k3 : x = 3 → wp l G μ Z t3 lv st h rc rs) (k4 : x = 4 → wp l G μ Z t4 lv st h rc rs) (k5 : x = 5 → wp l G μ Z t5 lv st h rc rs) (k6 : x = 6 → wp l G μ Z t6 lv st h rc rs) (k7 : x = 7 → wp l G μ Z t7 lv st h rc rs) (k8 : x = 8 → wp l G μ Z t8 lv st h rc rs) (k9 : x = 9 → wp l G μ Z t9 lv st h rc rs) (k10 : x = 10 → wp l G μ Z t10 lv st h rc rs) (k11 : x = 11 → wp l G μ Z t11 lv st h rc rs) (k12 : x = 12 → wp l G μ Z t12 lv st h rc rs) (k13 : x = 13 → wp l G μ Z t13 lv st h rc rs) (k14 : x = 14 → wp l G μ Z t14 lv st h rc rs) (kd : (x < 0 ∨ 14 < x) → wp l G μ Z td lv st h rc rs) : wp l G μ Z pc lv (.int x :: st) h rc rs := by
  by_cases hlo : x.toInt < 0
  · exact wp_tableOut hd (Or.inl hlo) ed (kd (Or.inl (Int32.lt_iff_toInt_lt.mpr (by simpa using hlo))))
  · by_cases hhi : (14 : Int) < x.toInt
    · exact wp_tableOut hd (Or.inr hhi) ed (kd (Or.inr (Int32.lt_iff_toInt_lt.mpr (by simpa using hhi))))
    · have hc : x.toInt = 0 ∨ x.toInt = 1 ∨ x.toInt = 2 ∨ x.toInt = 3 ∨ x.toInt = 4 ∨ x.toInt = 5 ∨ x.toInt = 6 ∨ x.toInt = 7 ∨ x.toInt = 8 ∨ x.toInt = 9 ∨ x.toInt = 10 ∨ x.toInt = 11 ∨ x.toInt = 12 ∨ x.toInt = 13 ∨ x.toInt = 14 := by omega
      rcases hc with hc | hc | hc | hc | hc | hc | hc | hc | hc | hc | hc | hc | hc | hc | hc
      · exact wp_tableIn hd hlo hhi (off := o0) (by rw [hc]; rfl) e0 (k0 (Int32.toInt_inj.mp (by rw [hc]; decide)))
      · exact wp_tableIn hd hlo hhi (off := o1) (by rw [hc]; rfl) e1 (k1 (Int32.toInt_inj.mp (by rw [hc]; decide)))
      · exact wp_tableIn hd hlo hhi (off := o2) (by rw [hc]; rfl) e2 (k2 (Int32.toInt_inj.mp (by rw [hc]; decide)))
      · exact wp_tableIn hd hlo hhi (off := o3) (by rw [hc]; rfl) e3 (k3 (Int32.toInt_inj.mp (by rw [hc]; decide)))
      · exact wp_tableIn hd hlo hhi (off := o4) (by rw [hc]; rfl) e4 (k4 (Int32.toInt_inj.mp (by rw [hc]; decide)))
      · exact wp_tableIn hd hlo hhi (off := o5) (by rw [hc]; rfl) e5 (k5 (Int32.toInt_inj.mp (by rw [hc]; decide)))
      · exact wp_tableIn hd hlo hhi (off := o6) (by rw [hc]; rfl) e6 (k6 (Int32.toInt_inj.mp (by rw [hc]; decide)))
      · exact wp_tableIn hd hlo hhi (off := o7) (by rw [hc]; rfl) e7 (k7 (Int32.toInt_inj.mp (by rw [hc]; decide)))
      · exact wp_tableIn hd hlo hhi (off := o8) (by rw [hc]; rfl) e8 (k8 (Int32.toInt_inj.mp (by rw [hc]; decide)))
      · exact wp_tableIn hd hlo hhi (off := o9) (by rw [hc]; rfl) e9 (k9 (Int32.toInt_inj.mp (by rw [hc]; decide)))
      · exact wp_tableIn hd hlo hhi (off := o10) (by rw [hc]; rfl) e10 (k10 (Int32.toInt_inj.mp (by rw [hc]; decide)))
      · exact wp_tableIn hd hlo hhi (off := o11) (by rw [hc]; rfl) e11 (k11 (Int32.toInt_inj.mp (by rw [hc]; decide)))
      · exact wp_tableIn hd hlo hhi (off := o12) (by rw [hc]; rfl) e12 (k12 (Int32.toInt_inj.mp (by rw [hc]; decide)))
      · exact wp_tableIn hd hlo hhi (off := o13) (by rw [hc]; rfl) e13 (k13 (Int32.toInt_inj.mp (by rw [hc]; decide)))
      · exact wp_tableIn hd hlo hhi (off := o14) (by rw [hc]; rfl) e14 (k14 (Int32.toInt_inj.mp (by rw [hc]; decide)))
set_option maxRecDepth 10000 in
theorem wp_tsw_0_29 {l : Launch} {G : WG} {μ : MI} {Z : WZ} {pc : Nat} {lv : List (Option Value)} {st : List Value} {h : Hp} {rc rs : Nat} {dflt : Int} {o0 o1 o2 o3 o4 o5 o6 o7 o8 o9 o10 o11 o12 o13 o14 o15 o16 o17 o18 o19 o20 o21 o22 o23 o24 o25 o26 o27 o28 o29 : Int} {len : Nat} {x : Int32} {t0 t1 t2 t3 t4 t5 t6 t7 t8 t9 t10 t11 t12 t13 t14 t15 t16 t17 t18 t19 t20 t21 t22 t23 t24 t25 t26 t27 t28 t29 td : Nat} (hd : decode (mC μ) pc = .ok (.tableswitch dflt 0 29 #[o0, o1, o2, o3, o4, o5, o6, o7, o8, o9, o10, o11, o12, o13, o14, o15, o16, o17, o18, o19, o20, o21, o22, o23, o24, o25, o26, o27, o28, o29], len)) (e0 : (pc : Int) + o0 = (t0 : Int)) (e1 : (pc : Int) + o1 = (t1 : Int)) (e2 : (pc : Int) + o2 = (t2 : Int)) (e3 : (pc : Int) + o3 = (t3 : Int)) (e4 : (pc : Int) + o4 = (t4 : Int)) (e5 : (pc : Int) + o5 = (t5 : Int)) (e6 : (pc : Int) + o6 = (t6 : Int)) (e7 : (pc : Int) + o7 = (t7 : Int)) (e8 : (pc : Int) + o8 = (t8 : Int)) (e9 : (pc : Int) + o9 = (t9 : Int)) (e10 : (pc : Int) + o10 = (t10 : Int)) (e11 : (pc : Int) + o11 = (t11 : Int)) (e12 : (pc : Int) + o12 = (t12 : Int)) (e13 : (pc : Int) + o13 = (t13 : Int)) (e14 : (pc : Int) + o14 = (t14 : Int)) (e15 : (pc : Int) + o15 = (t15 : Int)) (e16 : (pc : Int) + o16 = (t16 : Int)) (e17 : (pc : Int) + o17 = (t17 : Int)) (e18 : (pc : Int) + o18 = (t18 : Int)) (e19 : (pc : Int) + o19 = (t19 : Int)) (e20 : (pc : Int) + o20 = (t20 : Int)) (e21 : (pc : Int) + o21 = (t21 : Int)) (e22 : (pc : Int) + o22 = (t22 : Int)) (e23 : (pc : Int) + o23 = (t23 : Int)) (e24 : (pc : Int) + o24 = (t24 : Int)) (e25 : (pc : Int) + o25 = (t25 : Int)) (e26 : (pc : Int) + o26 = (t26 : Int)) (e27 : (pc : Int) + o27 = (t27 : Int)) (e28 : (pc : Int) + o28 = (t28 : Int)) (e29 : (pc : Int) + o29 = (t29 : Int)) (ed : (pc : Int) + dflt = (td : Int)) (k0 : x = 0 → wp l G μ Z t0 lv st h rc rs) (k1 : x = 1 → wp l G μ Z t1 lv st h rc rs) (k2 : x = 2 → wp l G μ Z t2 lv st h rc rs) (k3 : x = 3 → wp l G μ Z t3 lv st h rc rs) (k4 : x = 4 → wp l G μ Z t4 lv st h rc rs) (k5 : x = 5 → wp l G μ Z t5 lv st h rc rs) (k6 : x = 6 → wp l G μ Z t6 lv st h rc rs) (k7 : x = 7 → wp l G μ Z t7 lv st h rc rs) (k8 : x = 8 → wp l G μ Z t8 lv st h rc rs) (k9 : x = 9 → wp l G μ Z t9 lv st h rc rs) (k10 : x = 10 → wp l G μ Z t10 lv st h rc rs) (k11 : x = 11 → wp l G μ Z t11 lv st h rc rs) (k12 : x = 12 → wp l G μ Z t12 lv st h rc rs) (k13 : x = 13 → wp l G μ Z t13 lv st h rc rs) (k14 : x = 14 → wp l G μ Z t14 lv st h rc rs) (k15 : x = 15 → wp l G μ Z t15 lv st h rc rs) (k16 : x = 16 → wp l G μ Z t16 lv st h rc rs) (k17 : x = 17 → wp l G μ Z t17 lv st h rc rs) (k18 : x = 18 → wp l G μ Z t18 lv st h rc rs) (k19 : x = 19 → wp l G μ Z t19 lv st h rc rs) (k20 : x = 20 → wp l G μ Z t20 lv st h rc rs) (k21 : x = 21 → wp l G μ Z t21 lv st h rc rs) (k22 : x = 22 → wp l G μ Z t22 lv st h rc rs) (k23 : x = 23 → wp l G μ Z t23 lv st h rc rs) (k24 : x = 24 → wp l G μ Z t24 lv st h rc rs) (k25 : x = 25 → wp l G μ Z t25 lv st h rc rs) (k26 : x = 26 → wp l G μ Z t26 lv st h rc rs) (k27 : x = 27 → wp l G μ Z t27 lv st h rc rs) (k28 : x = 28 → wp l G μ Z t28 lv st h rc rs) (k29 : x = 29 → wp l G μ Z t29 lv st h rc rs) (kd : (x < 0 ∨ 29 < x) → wp l G μ Z td lv st h rc rs) : wp l G μ Z pc lv (.int x :: st) h rc rs := by
  by_cases hlo : x.toInt < 0
  · exact wp_tableOut hd (Or.inl hlo) ed (kd (Or.inl (Int32.lt_iff_toInt_lt.mpr (by simpa using hlo))))
  · by_cases hhi : (29 : Int) < x.toInt
    · exact wp_tableOut hd (Or.inr hhi) ed (kd (Or.inr (Int32.lt_iff_toInt_lt.mpr (by simpa using hhi))))
    · have hc : x.toInt = 0 ∨ x.toInt = 1 ∨ x.toInt = 2 ∨ x.toInt = 3 ∨ x.toInt = 4 ∨ x.toInt = 5 ∨ x.toInt = 6 ∨ x.toInt = 7 ∨ x.toInt = 8 ∨ x.toInt = 9 ∨ x.toInt = 10 ∨ x.toInt = 11 ∨ x.toInt = 12 ∨ x.toInt = 13 ∨ x.toInt = 14 ∨ x.toInt = 15 ∨ x.toInt = 16 ∨ x.toInt = 17 ∨ x.toInt = 18 ∨ x.toInt = 19 ∨ x.toInt = 20 ∨ x.toInt = 21 ∨ x.toInt = 22 ∨ x.toInt = 23 ∨ x.toInt = 24 ∨ x.toInt = 25 ∨ x.toInt = 26 ∨ x.toInt = 27 ∨ x.toInt = 28 ∨ x.toInt = 29 := by omega
      rcases hc with hc | hc | hc | hc | hc | hc | hc | hc | hc | hc | hc | hc | hc | hc | hc | hc | hc | hc | hc | hc | hc | hc | hc | hc | hc | hc | hc | hc | hc | hc
      · exact wp_tableIn hd hlo hhi (off := o0) (by rw [hc]; rfl) e0 (k0 (Int32.toInt_inj.mp (by rw [hc]; decide)))
      · exact wp_tableIn hd hlo hhi (off := o1) (by rw [hc]; rfl) e1 (k1 (Int32.toInt_inj.mp (by rw [hc]; decide)))
      · exact wp_tableIn hd hlo hhi (off := o2) (by rw [hc]; rfl) e2 (k2 (Int32.toInt_inj.mp (by rw [hc]; decide)))
      · exact wp_tableIn hd hlo hhi (off := o3) (by rw [hc]; rfl) e3 (k3 (Int32.toInt_inj.mp (by rw [hc]; decide)))
      · exact wp_tableIn hd hlo hhi (off := o4) (by rw [hc]; rfl) e4 (k4 (Int32.toInt_inj.mp (by rw [hc]; decide)))
      · exact wp_tableIn hd hlo hhi (off := o5) (by rw [hc]; rfl) e5 (k5 (Int32.toInt_inj.mp (by rw [hc]; decide)))
      · exact wp_tableIn hd hlo hhi (off := o6) (by rw [hc]; rfl) e6 (k6 (Int32.toInt_inj.mp (by rw [hc]; decide)))
      · exact wp_tableIn hd hlo hhi (off := o7) (by rw [hc]; rfl) e7 (k7 (Int32.toInt_inj.mp (by rw [hc]; decide)))
      · exact wp_tableIn hd hlo hhi (off := o8) (by rw [hc]; rfl) e8 (k8 (Int32.toInt_inj.mp (by rw [hc]; decide)))
      · exact wp_tableIn hd hlo hhi (off := o9) (by rw [hc]; rfl) e9 (k9 (Int32.toInt_inj.mp (by rw [hc]; decide)))
      · exact wp_tableIn hd hlo hhi (off := o10) (by rw [hc]; rfl) e10 (k10 (Int32.toInt_inj.mp (by rw [hc]; decide)))
      · exact wp_tableIn hd hlo hhi (off := o11) (by rw [hc]; rfl) e11 (k11 (Int32.toInt_inj.mp (by rw [hc]; decide)))
      · exact wp_tableIn hd hlo hhi (off := o12) (by rw [hc]; rfl) e12 (k12 (Int32.toInt_inj.mp (by rw [hc]; decide)))
      · exact wp_tableIn hd hlo hhi (off := o13) (by rw [hc]; rfl) e13 (k13 (Int32.toInt_inj.mp (by rw [hc]; decide)))
      · exact wp_tableIn hd hlo hhi (off := o14) (by rw [hc]; rfl) e14 (k14 (Int32.toInt_inj.mp (by rw [hc]; decide)))
      · exact wp_tableIn hd hlo hhi (off := o15) (by rw [hc]; rfl) e15 (k15 (Int32.toInt_inj.mp (by rw [hc]; decide)))
      · exact wp_tableIn hd hlo hhi (off := o16) (by rw [hc]; rfl) e16 (k16 (Int32.toInt_inj.mp (by rw [hc]; decide)))
      · exact wp_tableIn hd hlo hhi (off := o17) (by rw [hc]; rfl) e17 (k17 (Int32.toInt_inj.mp (by rw [hc]; decide)))
      · exact wp_tableIn hd hlo hhi (off := o18) (by rw [hc]; rfl) e18 (k18 (Int32.toInt_inj.mp (by rw [hc]; decide)))
      · exact wp_tableIn hd hlo hhi (off := o19) (by rw [hc]; rfl) e19 (k19 (Int32.toInt_inj.mp (by rw [hc]; decide)))
      · exact wp_tableIn hd hlo hhi (off := o20) (by rw [hc]; rfl) e20 (k20 (Int32.toInt_inj.mp (by rw [hc]; decide)))
      · exact wp_tableIn hd hlo hhi (off := o21) (by rw [hc]; rfl) e21 (k21 (Int32.toInt_inj.mp (by rw [hc]; decide)))
      · exact wp_tableIn hd hlo hhi (off := o22) (by rw [hc]; rfl) e22 (k22 (Int32.toInt_inj.mp (by rw [hc]; decide)))
      · exact wp_tableIn hd hlo hhi (off := o23) (by rw [hc]; rfl) e23 (k23 (Int32.toInt_inj.mp (by rw [hc]; decide)))
      · exact wp_tableIn hd hlo hhi (off := o24) (by rw [hc]; rfl) e24 (k24 (Int32.toInt_inj.mp (by rw [hc]; decide)))
      · exact wp_tableIn hd hlo hhi (off := o25) (by rw [hc]; rfl) e25 (k25 (Int32.toInt_inj.mp (by rw [hc]; decide)))
      · exact wp_tableIn hd hlo hhi (off := o26) (by rw [hc]; rfl) e26 (k26 (Int32.toInt_inj.mp (by rw [hc]; decide)))
      · exact wp_tableIn hd hlo hhi (off := o27) (by rw [hc]; rfl) e27 (k27 (Int32.toInt_inj.mp (by rw [hc]; decide)))
      · exact wp_tableIn hd hlo hhi (off := o28) (by rw [hc]; rfl) e28 (k28 (Int32.toInt_inj.mp (by rw [hc]; decide)))
      · exact wp_tableIn hd hlo hhi (off := o29) (by rw [hc]; rfl) e29 (k29 (Int32.toInt_inj.mp (by rw [hc]; decide)))
set_option maxRecDepth 10000 in
theorem wp_tsw_1_4 {l : Launch} {G : WG} {μ : MI} {Z : WZ} {pc : Nat} {lv : List (Option Value)} {st : List Value} {h : Hp} {rc rs : Nat} {dflt : Int} {o0 o1 o2 o3 : Int} {len : Nat} {x : Int32} {t0 t1 t2 t3 td : Nat} (hd : decode (mC μ) pc = .ok (.tableswitch dflt 1 4 #[o0, o1, o2, o3], len)) (e0 : (pc : Int) + o0 = (t0 : Int)) (e1 : (pc : Int) + o1 = (t1 : Int)) (e2 : (pc : Int) + o2 = (t2 : Int)) (e3 : (pc : Int) + o3 = (t3 : Int)) (ed : (pc : Int) + dflt = (td : Int)) (k0 : x = 1 → wp l G μ Z t0 lv st h rc rs) (k1 : x = 2 → wp l G μ Z t1 lv st h rc rs) (k2 : x = 3 → wp l G μ Z t2 lv st h rc rs) (k3 : x = 4 → wp l G μ Z t3 lv st h rc rs) (kd : (x < 1 ∨ 4 < x) → wp l G μ Z td lv st h rc rs) : wp l G μ Z pc lv (.int x :: st) h rc rs := by
  by_cases hlo : x.toInt < 1
  · exact wp_tableOut hd (Or.inl hlo) ed (kd (Or.inl (Int32.lt_iff_toInt_lt.mpr (by simpa using hlo))))
  · by_cases hhi : (4 : Int) < x.toInt
    · exact wp_tableOut hd (Or.inr hhi) ed (kd (Or.inr (Int32.lt_iff_toInt_lt.mpr (by simpa using hhi))))
    · have hc : x.toInt = 1 ∨ x.toInt = 2 ∨ x.toInt = 3 ∨ x.toInt = 4 := by omega
      rcases hc with hc | hc | hc | hc
      · exact wp_tableIn hd hlo hhi (off := o0) (by rw [hc]; rfl) e0 (k0 (Int32.toInt_inj.mp (by rw [hc]; decide)))
      · exact wp_tableIn hd hlo hhi (off := o1) (by rw [hc]; rfl) e1 (k1 (Int32.toInt_inj.mp (by rw [hc]; decide)))
      · exact wp_tableIn hd hlo hhi (off := o2) (by rw [hc]; rfl) e2 (k2 (Int32.toInt_inj.mp (by rw [hc]; decide)))
      · exact wp_tableIn hd hlo hhi (off := o3) (by rw [hc]; rfl) e3 (k3 (Int32.toInt_inj.mp (by rw [hc]; decide)))
set_option maxRecDepth 10000 in
theorem wp_tsw_4_7 {l : Launch} {G : WG} {μ : MI} {Z : WZ} {pc : Nat} {lv : List (Option Value)} {st : List Value} {h : Hp} {rc rs : Nat} {dflt : Int} {o0 o1 o2 o3 : Int} {len : Nat} {x : Int32} {t0 t1 t2 t3 td : Nat} (hd : decode (mC μ) pc = .ok (.tableswitch dflt 4 7 #[o0, o1, o2, o3], len)) (e0 : (pc : Int) + o0 = (t0 : Int)) (e1 : (pc : Int) + o1 = (t1 : Int)) (e2 : (pc : Int) + o2 = (t2 : Int)) (e3 : (pc : Int) + o3 = (t3 : Int)) (ed : (pc : Int) + dflt = (td : Int)) (k0 : x = 4 → wp l G μ Z t0 lv st h rc rs) (k1 : x = 5 → wp l G μ Z t1 lv st h rc rs) (k2 : x = 6 → wp l G μ Z t2 lv st h rc rs) (k3 : x = 7 → wp l G μ Z t3 lv st h rc rs) (kd : (x < 4 ∨ 7 < x) → wp l G μ Z td lv st h rc rs) : wp l G μ Z pc lv (.int x :: st) h rc rs := by
  by_cases hlo : x.toInt < 4
  · exact wp_tableOut hd (Or.inl hlo) ed (kd (Or.inl (Int32.lt_iff_toInt_lt.mpr (by simpa using hlo))))
  · by_cases hhi : (7 : Int) < x.toInt
    · exact wp_tableOut hd (Or.inr hhi) ed (kd (Or.inr (Int32.lt_iff_toInt_lt.mpr (by simpa using hhi))))
    · have hc : x.toInt = 4 ∨ x.toInt = 5 ∨ x.toInt = 6 ∨ x.toInt = 7 := by omega
      rcases hc with hc | hc | hc | hc
      · exact wp_tableIn hd hlo hhi (off := o0) (by rw [hc]; rfl) e0 (k0 (Int32.toInt_inj.mp (by rw [hc]; decide)))
      · exact wp_tableIn hd hlo hhi (off := o1) (by rw [hc]; rfl) e1 (k1 (Int32.toInt_inj.mp (by rw [hc]; decide)))
      · exact wp_tableIn hd hlo hhi (off := o2) (by rw [hc]; rfl) e2 (k2 (Int32.toInt_inj.mp (by rw [hc]; decide)))
      · exact wp_tableIn hd hlo hhi (off := o3) (by rw [hc]; rfl) e3 (k3 (Int32.toInt_inj.mp (by rw [hc]; decide)))
theorem wp_lsw01 {l : Launch} {G : WG} {μ : MI} {Z : WZ} {pc : Nat} {lv : List (Option Value)} {st : List Value} {h : Hp} {rc rs : Nat} {dflt o0 o1 : Int} {len : Nat} {x : Int32} {t0 t1 td : Nat} (hd : decode (mC μ) pc = .ok (.lookupswitch dflt #[(0, o0), (1, o1)], len)) (e0 : (pc : Int) + o0 = (t0 : Int)) (e1 : (pc : Int) + o1 = (t1 : Int)) (ed : (pc : Int) + dflt = (td : Int)) (k0 : x = 0 → wp l G μ Z t0 lv st h rc rs) (k1 : x = 1 → wp l G μ Z t1 lv st h rc rs) (kd : ¬ x = 0 → ¬ x = 1 → wp l G μ Z td lv st h rc rs) : wp l G μ Z pc lv (.int x :: st) h rc rs := by
  by_cases h0 : x = 0
  · subst h0; exact wp_lookup hd (by simp) (off := o0) rfl e0 (k0 rfl)
  · by_cases h1 : x = 1
    · subst h1; exact wp_lookup hd (by simp) (off := o1) rfl e1 (k1 rfl)
    · refine wp_lookup hd (by simp) (off := dflt) ?_ ed (kd h0 h1)
      have g0 : ¬ x.toInt = 0 := fun z => h0 (Int32.toInt_inj.mp (by rw [z]; rfl))
      have g1 : ¬ x.toInt = 1 := fun z => h1 (Int32.toInt_inj.mp (by rw [z]; rfl))
      simp [Op.lookupswitch.offset, Ne.symm, g0, g1]
theorem nl1 : (1 : Int32) = nI 1 := rfl
theorem nl5 : (5 : Int32) = nI 5 := rfl
theorem nl8 : (8 : Int32) = nI 8 := rfl
theorem nl20 : (20 : Int32) = nI 20 := rfl
