/-! ===== THE REFERENCE: its object, its rows ===== -/
abbrev q_drift : Nat := 0
abbrev q_time : Nat := 1
abbrev q_keepers : Nat := 2
abbrev q_kBegin : Nat := 3
abbrev q_kRate : Nat := 4
abbrev q_kAwake : Nat := 5
abbrev q_workers : Nat := 6
abbrev q_wBegin : Nat := 7
abbrev q_wRate : Nat := 8
abbrev q_sent : Nat := 9
abbrev q_wAwake : Nat := 10
abbrev q_things : Nat := 11
abbrev q_kind : Nat := 12
abbrev q_length : Nat := 13
abbrev q_whole : Nat := 14
abbrev q_riser : Nat := 15
abbrev q_queued : Nat := 16
abbrev q_queue : Nat := 17
abbrev q_last : Nat := 18
abbrev q_calledEnd : Nat := 19
abbrev q_called : Nat := 20
abbrev q_grants : Nat := 21
abbrev q_gWorker : Nat := 22
abbrev q_gMode : Nat := 23
abbrev q_gParts : Nat := 24
abbrev q_gNumber : Nat := 25
abbrev q_gEnd : Nat := 26
abbrev q_leader : Nat := 27
abbrev q_term : Nat := 28
abbrev q_isHeld : Nat := 29
abbrev q_hMode : Nat := 30
abbrev q_hParts : Nat := 31
abbrev q_waits : Nat := 32
abbrev q_hNumber : Nat := 33
abbrev q_until : Nat := 34
abbrev q_letters : Nat := 35
abbrev q_lKind : Nat := 36
abbrev q_lWorker : Nat := 37
abbrev q_lKeeper : Nat := 38
abbrev q_lThing : Nat := 39
abbrev q_lMode : Nat := 40
abbrev q_lParts : Nat := 41
abbrev q_lHow : Nat := 42
abbrev q_lMark : Nat := 43
abbrev q_lNumber : Nat := 44
abbrev q_lAsked : Nat := 45
abbrev q_stores : Nat := 46
abbrev q_sNumber : Nat := 47
abbrev q_sValue : Nat := 48
abbrev q_made : Nat := 49
abbrev q_nos : Nat := 50
abbrev q_lates : Nat := 51
abbrev q_turns : Nat := 52
abbrev q_refused : Nat := 53
abbrev q_tray : Nat := 54
abbrev q_trayOf : Nat := 55
abbrev q_traySize : Nat := 56
abbrev q_trayRow : Nat := 57
abbrev q_status : Nat := 58
/-- the reference's numbers: scalars, rows of ints (and of truths), rows of longs, by their field -/
abbrev MS : Type := (Nat → Int32) × (Nat → Nat → Int32) × (Nat → Nat → Int64)
abbrev sc (M : MS) (k : Nat) : Int32 := M.1 k
abbrev ia (M : MS) (k j : Nat) : Int32 := M.2.1 k j
abbrev la (M : MS) (k j : Nat) : Int64 := M.2.2 k j
def sS (M : MS) (k : Nat) (v : Int32) : MS := (fu M.1 k v, M.2.1, M.2.2)
def sI (M : MS) (k j : Nat) (v : Int32) : MS := (M.1, fu M.2.1 k (fu (M.2.1 k) j v), M.2.2)
def sL (M : MS) (k j : Nat) (v : Int64) : MS := (M.1, M.2.1, fu M.2.2 k (fu (M.2.2 k) j v))
/-- kind and length of a row -/
def arrK : Nat → Nat × Nat
  | 3 => (0, 5)
  | 4 => (0, 5)
  | 5 => (2, 5)
  | 7 => (0, 20)
  | 8 => (0, 20)
  | 9 => (0, 20)
  | 10 => (2, 20)
  | 12 => (0, 20)
  | 13 => (0, 20)
  | 14 => (0, 20)
  | 15 => (0, 20)
  | 16 => (0, 20)
  | 17 => (0, 160)
  | 18 => (1, 20)
  | 19 => (1, 20)
  | 20 => (2, 20)
  | 21 => (0, 20)
  | 22 => (0, 400)
  | 23 => (0, 400)
  | 24 => (0, 400)
  | 25 => (1, 400)
  | 26 => (1, 400)
  | 29 => (2, 400)
  | 30 => (0, 400)
  | 31 => (0, 400)
  | 32 => (0, 400)
  | 33 => (1, 400)
  | 34 => (1, 400)
  | 36 => (0, 400)
  | 37 => (0, 400)
  | 38 => (0, 400)
  | 39 => (0, 400)
  | 40 => (0, 400)
  | 41 => (0, 400)
  | 42 => (0, 400)
  | 43 => (0, 400)
  | 44 => (1, 400)
  | 45 => (1, 400)
  | 47 => (1, 120)
  | 48 => (1, 120)
  | 54 => (0, 6)
  | 55 => (0, 6)
  | 56 => (0, 6)
  | 57 => (1, 120)
  | _ => (9, 0)
def isArr (k : Nat) : Bool := (arrK k).1 != 9
def mA (M : MS) (k : Nat) : EC := if (arrK k).1 = 0 then aI (arrK k).2 (M.2.1 k) else if (arrK k).1 = 2 then aZ (arrK k).2 (M.2.1 k) else aJ (arrK k).2 (M.2.2 k)
def mF (am : Nat → Nat) (M : MS) : List Value := [.int (M.1 0), .int (M.1 1), .int (M.1 2), .ref (am 3), .ref (am 4), .ref (am 5), .int (M.1 6), .ref (am 7), .ref (am 8), .ref (am 9), .ref (am 10), .int (M.1 11), .ref (am 12), .ref (am 13), .ref (am 14), .ref (am 15), .ref (am 16), .ref (am 17), .ref (am 18), .ref (am 19), .ref (am 20), .ref (am 21), .ref (am 22), .ref (am 23), .ref (am 24), .ref (am 25), .ref (am 26), .int (M.1 27), .int (M.1 28), .ref (am 29), .ref (am 30), .ref (am 31), .ref (am 32), .ref (am 33), .ref (am 34), .int (M.1 35), .ref (am 36), .ref (am 37), .ref (am 38), .ref (am 39), .ref (am 40), .ref (am 41), .ref (am 42), .ref (am 43), .ref (am 44), .ref (am 45), .int (M.1 46), .ref (am 47), .ref (am 48), .int (M.1 49), .int (M.1 50), .int (M.1 51), .int (M.1 52), .int (M.1 53), .ref (am 54), .ref (am 55), .ref (am 56), .ref (am 57), .int (M.1 58)]
theorem mA_congr {M M' : MS} {k : Nat} (h1 : M'.2.1 k = M.2.1 k) (h2 : M'.2.2 k = M.2.2 k) : mA M' k = mA M k := by unfold mA; rw [h1, h2]
theorem mA_i {M : MS} {k n : Nat} (h : arrK k = (0, n)) : mA M k = aI n (M.2.1 k) := by unfold mA; rw [h]; rfl
theorem mA_z {M : MS} {k n : Nat} (h : arrK k = (2, n)) : mA M k = aZ n (M.2.1 k) := by unfold mA; rw [h]; rfl
theorem mA_j {M : MS} {k n : Nat} (h : arrK k = (1, n)) : mA M k = aJ n (M.2.2 k) := by unfold mA; rw [h]; rfl
/-- the reference's object at x, its rows at am -/
def InM (x : Nat) (am : Nat → Nat) (M : MS) (h : Hp) : Prop := h x = some (oB 13 (mF am M)) ∧ (∀ k, isArr k = true → h (am k) = some (mA M k)) ∧ (∀ k, isArr k = true → am k ≠ x) ∧ ∀ j k, isArr j = true → isArr k = true → am j = am k → j = k
/-- nothing else has changed -/
def Fr (x : Nat) (am : Nat → Nat) (h0 h : Hp) : Prop := ∀ a, a ≠ x → (∀ k, isArr k = true → a ≠ am k) → h a = h0 a
theorem Fr.x {x : Nat} {am : Nat → Nat} {h0 h : Hp} (hF : Fr x am h0 h) (e : EC) : Fr x am h0 (up h x e) := fun a h1 h2 => by rw [up_n _ h1]; exact hF a h1 h2
theorem Fr.a {x : Nat} {am : Nat → Nat} {h0 h : Hp} (hF : Fr x am h0 h) {k : Nat} (hk : isArr k = true) (e : EC) : Fr x am h0 (up h (am k) e) := fun a h1 h2 => by rw [up_n _ (h2 k hk)]; exact hF a h1 h2
theorem InM.i {x : Nat} {am : Nat → Nat} {M : MS} {h : Hp} (hM : InM x am M h) (k : Nat) {n : Nat} (hk : arrK k = (0, n)) : h (am k) = some (aI n (M.2.1 k)) := by rw [hM.2.1 k (by unfold isArr; rw [hk]; rfl), mA_i hk]
theorem InM.z {x : Nat} {am : Nat → Nat} {M : MS} {h : Hp} (hM : InM x am M h) (k : Nat) {n : Nat} (hk : arrK k = (2, n)) : h (am k) = some (aZ n (M.2.1 k)) := by rw [hM.2.1 k (by unfold isArr; rw [hk]; rfl), mA_z hk]
theorem InM.j {x : Nat} {am : Nat → Nat} {M : MS} {h : Hp} (hM : InM x am M h) (k : Nat) {n : Nat} (hk : arrK k = (1, n)) : h (am k) = some (aJ n (M.2.2 k)) := by rw [hM.2.1 k (by unfold isArr; rw [hk]; rfl), mA_j hk]
theorem InM.putA {x : Nat} {am : Nat → Nat} {M M' : MS} {h : Hp} (hM : InM x am M h) {k : Nat} (hk : isArr k = true) (e1 : M'.1 = M.1) (e2 : ∀ j, j ≠ k → M'.2.1 j = M.2.1 j ∧ M'.2.2 j = M.2.2 j) {e : EC} (he : mA M' k = e) : InM x am M' (up h (am k) e) := by
  obtain ⟨h1, h2, h3, h4⟩ := hM
  refine ⟨?_, fun j hj => ?_, h3, h4⟩
  · rw [up_n _ (Ne.symm (h3 k hk)), h1]
    unfold mF
    rw [e1]
  · by_cases hjk : j = k
    · subst hjk; rw [up_s, he]
    · rw [up_n _ (fun z => hjk (h4 j k hj hk z)), h2 j hj, mA_congr (e2 j hjk).1 (e2 j hjk).2]
def isSc (k : Nat) : Bool := !isArr k && k < 59
theorem mF_set (am : Nat → Nat) (M : MS) (v : Int32) : ∀ k, isSc k = true → (mF am M).set k (.int v) = mF am (sS M k v) := by
  intro k hk
  unfold isSc at hk
  simp only [Bool.and_eq_true, Bool.not_eq_true', decide_eq_true_eq] at hk
  obtain ⟨ha, hk⟩ := hk
  have key : ∀ j : Fin 59, isArr j.val = false → (mF am M).set j.val (.int v) = mF am (sS M j.val v) := by
    intro j hj
    match j, hj with
    | ⟨0, _⟩, _ => rfl
    | ⟨1, _⟩, _ => rfl
    | ⟨2, _⟩, _ => rfl
    | ⟨3, _⟩, hj => cases hj
    | ⟨4, _⟩, hj => cases hj
    | ⟨5, _⟩, hj => cases hj
    | ⟨6, _⟩, _ => rfl
    | ⟨7, _⟩, hj => cases hj
    | ⟨8, _⟩, hj => cases hj
    | ⟨9, _⟩, hj => cases hj
    | ⟨10, _⟩, hj => cases hj
    | ⟨11, _⟩, _ => rfl
    | ⟨12, _⟩, hj => cases hj
    | ⟨13, _⟩, hj => cases hj
    | ⟨14, _⟩, hj => cases hj
    | ⟨15, _⟩, hj => cases hj
    | ⟨16, _⟩, hj => cases hj
    | ⟨17, _⟩, hj => cases hj
    | ⟨18, _⟩, hj => cases hj
    | ⟨19, _⟩, hj => cases hj
    | ⟨20, _⟩, hj => cases hj
    | ⟨21, _⟩, hj => cases hj
    | ⟨22, _⟩, hj => cases hj
    | ⟨23, _⟩, hj => cases hj
    | ⟨24, _⟩, hj => cases hj
    | ⟨25, _⟩, hj => cases hj
    | ⟨26, _⟩, hj => cases hj
    | ⟨27, _⟩, _ => rfl
    | ⟨28, _⟩, _ => rfl
    | ⟨29, _⟩, hj => cases hj
    | ⟨30, _⟩, hj => cases hj
    | ⟨31, _⟩, hj => cases hj
    | ⟨32, _⟩, hj => cases hj
    | ⟨33, _⟩, hj => cases hj
    | ⟨34, _⟩, hj => cases hj
    | ⟨35, _⟩, _ => rfl
    | ⟨36, _⟩, hj => cases hj
    | ⟨37, _⟩, hj => cases hj
    | ⟨38, _⟩, hj => cases hj
    | ⟨39, _⟩, hj => cases hj
    | ⟨40, _⟩, hj => cases hj
    | ⟨41, _⟩, hj => cases hj
    | ⟨42, _⟩, hj => cases hj
    | ⟨43, _⟩, hj => cases hj
    | ⟨44, _⟩, hj => cases hj
    | ⟨45, _⟩, hj => cases hj
    | ⟨46, _⟩, _ => rfl
    | ⟨47, _⟩, hj => cases hj
    | ⟨48, _⟩, hj => cases hj
    | ⟨49, _⟩, _ => rfl
    | ⟨50, _⟩, _ => rfl
    | ⟨51, _⟩, _ => rfl
    | ⟨52, _⟩, _ => rfl
    | ⟨53, _⟩, _ => rfl
    | ⟨54, _⟩, hj => cases hj
    | ⟨55, _⟩, hj => cases hj
    | ⟨56, _⟩, hj => cases hj
    | ⟨57, _⟩, hj => cases hj
    | ⟨58, _⟩, _ => rfl
    | ⟨n + 59, hn⟩, _ => exact absurd hn (by omega)
  exact key ⟨k, hk⟩ ha
theorem InM.putS {x : Nat} {am : Nat → Nat} {M : MS} {h : Hp} (hM : InM x am M h) {k : Nat} (hk : isSc k = true) (v : Int32) : InM x am (sS M k v) (up h x (oB 13 ((mF am M).set k (.int v)))) := by
  obtain ⟨h1, h2, h3, h4⟩ := hM
  refine ⟨by rw [up_s, mF_set am M v k hk], fun j hj => ?_, h3, h4⟩
  rw [up_n _ (h3 j hj), h2 j hj]
  exact congrArg some (mA_congr rfl rfl)
section MP
variable {l : Launch} {G : WG} {μ : MI} {Z : WZ} {pc : Nat} {lv : List (Option Value)} {st st0 : List Value} {h h0 : Hp} {rc rs x : Nat} {am : Nat → Nat} {M : MS}
theorem mp_putS {k idx : Nat} {v : Int32} (hd : decode (mC μ) pc = .ok (.putfield idx, 3)) (fl : FL (mY μ).cls idx k 13) (hM : InM x am M h) (hF : Fr x am h0 h) (hk : isSc k = true) (hf : isFin k 13 = false) (hl9 : k < 59) (hn9 : cl_ty 13 k = .int) (kk : ∀ h : Hp, InM x am (sS M k v) h → Fr x am h0 h → wp l G μ Z (pc + 3) lv st h rc rs) : wp l G μ Z pc lv (.int v :: .ref x :: st) h rc rs :=
  wp_put hd fl hM.1 (Or.inl hf) hl9 (by rw [hn9]; rfl) (by rw [hn9]; rfl) (kk _ (hM.putS hk v) (hF.x _))
theorem mp_iast {k n i : Nat} {y v : Int32} (hd : decode (mC μ) pc = .ok (.iastore, 1)) (hM : InM x am M h) (hF : Fr x am h0 h) (hk : arrK k = (0, n)) (hx : ix y n i) (kk : ∀ h : Hp, InM x am (sI M k i v) h → Fr x am h0 h → wp l G μ Z (pc + 1) lv st h rc rs) : wp l G μ Z pc lv (.int v :: .int y :: .ref (am k) :: st) h rc rs := by
  have hA : isArr k = true := by unfold isArr; rw [hk]; rfl
  refine wp_iast hd (hM.i k hk) hx (kk _ (hM.putA (M' := sI M k i v) hA rfl (fun j hj => ⟨by simp [sI, fu, hj], rfl⟩) ?_) (hF.a hA _))
  rw [mA_i hk]; simp [sI, fu]
theorem mp_zast {k n i : Nat} {y v : Int32} (hd : decode (mC μ) pc = .ok (.bastore, 1)) (hM : InM x am M h) (hF : Fr x am h0 h) (hk : arrK k = (2, n)) (hx : ix y n i) (hv : v = 0 ∨ v = 1) (kk : ∀ h : Hp, InM x am (sI M k i v) h → Fr x am h0 h → wp l G μ Z (pc + 1) lv st h rc rs) : wp l G μ Z pc lv (.int v :: .int y :: .ref (am k) :: st) h rc rs := by
  have hA : isArr k = true := by unfold isArr; rw [hk]; rfl
  refine wp_zast hd (hM.z k hk) hx hv (kk _ (hM.putA (M' := sI M k i v) hA rfl (fun j hj => ⟨by simp [sI, fu, hj], rfl⟩) ?_) (hF.a hA _))
  rw [mA_z hk]; simp [sI, fu]
theorem mp_last {k n i : Nat} {y : Int32} {v : Int64} (hd : decode (mC μ) pc = .ok (.lastore, 1)) (hM : InM x am M h) (hF : Fr x am h0 h) (hk : arrK k = (1, n)) (hx : ix y n i) (kk : ∀ h : Hp, InM x am (sL M k i v) h → Fr x am h0 h → wp l G μ Z (pc + 1) lv st h rc rs) : wp l G μ Z pc lv (.long v :: .int y :: .ref (am k) :: st) h rc rs := by
  have hA : isArr k = true := by unfold isArr; rw [hk]; rfl
  refine wp_last hd (hM.j k hk) hx (kk _ (hM.putA (M' := sL M k i v) hA rfl (fun j hj => ⟨rfl, by simp [sL, fu, hj]⟩) ?_) (hF.a hA _))
  rw [mA_j hk]; simp [sL, fu]
end MP
/-- a contract of one of the reference's methods -/
def MSp (l : Launch) (G : WG) (x : Nat) (am : Nat → Nat) (μ : MI) (av : List Value) (M : MS) (v : Option Value) (M' : MS) : Prop := ∀ (h0 h : Hp), InM x am M h → Fr x am h0 h → Sp l G μ (.ref x :: av) h (fun w h' => w = v ∧ InM x am M' h' ∧ Fr x am h0 h')
theorem vw13 : vwCl[13]? = some (RX12, TX12, 59) := rfl
section MC
variable {l : Launch} {G : WG} {μ : MI} {Z : WZ} {pc : Nat} {lv : List (Option Value)} {st st0 : List Value} {h h0 : Hp} {rc rs x : Nat} {am : Nat → Nat} {M : MS}
theorem mp_call {μ2 : MI} {idx n : Nat} {v : Value} {M' : MS} (As : List Value) (hd : decode (mC μ) pc = .ok (.invokevirtual idx, 3)) (hst : st0 = As.reverse ++ .ref x :: st) (cv : CV (mY μ).cls idx RX12 μ2 n) (hn9 : As.length = n) (hf : fitM μ2 μ) (hw : (st.map fun v => v.category).sum ≤ 8) (hz : (mR μ2).cells = 0 ∧ (mR μ2).slots = 0) (hS : MSp l G x am μ2 As M (some v) M') (hM : InM x am M h) (hF : Fr x am h0 h)
    (kk : ∀ h : Hp, InM x am M' h → Fr x am h0 h → wp l G μ Z (pc + 3) lv (v :: st) h rc rs) : wp l G μ Z pc lv st0 h rc rs := by
  have := wp_callV (rc := rc) (rs := rs) (Z := Z) (lv := lv) As hd hst hM.1 vw13 cv hn9 hf hw (hS h0 h hM hF) (fun w h' q => by obtain ⟨rfl, q1, q2⟩ := q; exact kk h' q1 q2)
  rw [hz.1, hz.2] at this
  exact this
theorem mp_callV {μ2 : MI} {idx n : Nat} {M' : MS} (As : List Value) (hd : decode (mC μ) pc = .ok (.invokevirtual idx, 3)) (hst : st0 = As.reverse ++ .ref x :: st) (cv : CV (mY μ).cls idx RX12 μ2 n) (hn9 : As.length = n) (hf : fitM μ2 μ) (hw : (st.map fun v => v.category).sum ≤ 8) (hz : (mR μ2).cells = 0 ∧ (mR μ2).slots = 0) (hS : MSp l G x am μ2 As M none M') (hM : InM x am M h) (hF : Fr x am h0 h)
    (kk : ∀ h : Hp, InM x am M' h → Fr x am h0 h → wp l G μ Z (pc + 3) lv st h rc rs) : wp l G μ Z pc lv st0 h rc rs := by
  have := wp_callV (rc := rc) (rs := rs) (Z := Z) (lv := lv) As hd hst hM.1 vw13 cv hn9 hf hw (hS h0 h hM hF) (fun w h' q => by obtain ⟨rfl, q1, q2⟩ := q; exact kk h' q1 q2)
  rw [hz.1, hz.2] at this
  exact this
theorem mp_callS {μ2 : MI} {idx n : Nat} {r : Value} (As : List Value) (hd : decode (mC μ) pc = .ok (.invokestatic idx, 3)) (hst : st0 = As.reverse ++ st) (cv : CS (mY μ).cls idx μ2 n) (hn9 : As.length = n) (hf : fitM μ2 μ) (hw : (st.map fun v => v.category).sum ≤ 8) (hz : (mR μ2).cells = 0 ∧ (mR μ2).slots = 0) (hS : Sp l G μ2 As h (fun w h' => w = some r ∧ h' = h))
    (kk : wp l G μ Z (pc + 3) lv (r :: st) h rc rs) : wp l G μ Z pc lv st0 h rc rs := by
  have := wp_callS (rc := rc) (rs := rs) (Z := Z) (lv := lv) As hd hst cv hn9 hf hw hS (fun w h' q => by obtain ⟨rfl, rfl⟩ := q; exact kk)
  rw [hz.1, hz.2] at this
  exact this
theorem mp_callSV {μ2 : MI} {idx n : Nat} (As : List Value) (hd : decode (mC μ) pc = .ok (.invokestatic idx, 3)) (hst : st0 = As.reverse ++ st) (cv : CS (mY μ).cls idx μ2 n) (hn9 : As.length = n) (hf : fitM μ2 μ) (hw : (st.map fun v => v.category).sum ≤ 8) (hz : (mR μ2).cells = 0 ∧ (mR μ2).slots = 0) (hS : Sp l G μ2 As h (fun w h' => w = none ∧ h' = h))
    (kk : wp l G μ Z (pc + 3) lv st h rc rs) : wp l G μ Z pc lv st0 h rc rs := by
  have := wp_callS (rc := rc) (rs := rs) (Z := Z) (lv := lv) As hd hst cv hn9 hf hw hS (fun w h' q => by obtain ⟨rfl, rfl⟩ := q; exact kk)
  rw [hz.1, hz.2] at this
  exact this
/-- the entry of a method of the reference -/
theorem MSp.intro {μ : MI} {av : List Value} {v : Option Value} {M' : MS} {lv : List (Option Value)} (hy : plainName (mY μ).cls = true) (hl : lvE (.ref x :: av) (mL μ) = lv) (hn : (lg_sl (.ref x :: av)).length ≤ mL μ)
    (k : ∀ h0 h : Hp, InM x am M h → Fr x am h0 h → wp l G μ (zM G μ (fun w h' => w = v ∧ InM x am M' h' ∧ Fr x am h0 h')) 0 lv [] h (mR μ).cells (mR μ).slots) : MSp l G x am μ av M v M' := fun h0 h hM hF => Sp.intro hy hl hn (k h0 h hM hF)
end MC
