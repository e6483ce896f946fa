/-! ===== THE CLASS'S CELLS, by the reference's state ===== -/
/-- addresses by kind and number; the lists' rooms and counts of change; when a WAITING thing's call ends -/
abbrev AD : Type := (Nat → Nat → Nat) × (Nat → Nat) × (Nat → Int32) × (Nat → Int64)
def len (M : MS) : Nat → Nat
  | 0 => nx (M.1 2)
  | 1 => nx (M.1 6)
  | 2 => nx (M.1 11)
  | 3 => nx (M.1 35)
  | t + 4 => nx (M.2.1 21 t)
def elt (A : AD) : Nat → Nat → Nat
  | 0 => A.1 3
  | 1 => A.1 4
  | 2 => A.1 7
  | 3 => A.1 9
  | t + 4 => fun i => A.1 8 (20 * t + i)
def tci (k : Int32) : Nat := if k = 1 then 8 else if k = 2 then 1 else if k = 3 then 7 else if k = 4 then 10 else 5
def tEx (A : AD) (M : MS) (t : Nat) : List Value := if M.2.1 12 t = 2 then [.int (M.2.1 14 t)] else if M.2.1 12 t = 3 then [.int (M.2.1 15 t)] else if M.2.1 12 t = 4 then [.ref (A.1 10 t), .int (M.2.1 16 t), .int (M.2.1 20 t), .long (A.2.2.2 t)] else []
def vld (A : AD) (M : MS) (k i : Nat) : Prop := match k with
  | 0 => i = 0
  | 1 => i < 4 + nx (M.1 11)
  | 2 => i < 4 + nx (M.1 11) ∧ A.2.1 i ≠ 0
  | 3 => i < nx (M.1 2)
  | 4 => i < nx (M.1 6)
  | 5 => i < nx (M.1 6)
  | 6 => i < 20 * nx (M.1 6)
  | 7 => i < nx (M.1 11)
  | 8 => i / 20 < nx (M.1 11) ∧ i % 20 < nx (M.2.1 21 (i / 20))
  | 9 => i < nx (M.1 35)
  | 10 => i < nx (M.1 11) ∧ M.2.1 12 i = 4
  | 11 => i = 0
  | 12 => i < 6
  | 13 => i = 0
  | 14 => i < 6
  | 15 => i = 0
  | 16 => i < 6
  | 17 => i < 6 ∧ (M.2.1 54 i = 3 ∨ M.2.1 54 i = 4)
  | _ => False
def cBd (G : WG) (A : AD) (M : MS) : EC := oB 12 [.int (M.1 0), .ref (A.1 1 0), .ref (A.1 1 1), .ref (A.1 1 2), .ref (A.1 1 3), .ref (A.1 11 0), .ref (A.1 13 0), .ref (A.1 15 0), .int (M.1 46), .int (M.1 1), .int (M.1 27), .int (M.1 28), .int (M.1 49), .int (M.1 50), .int (M.1 51), .int (M.1 52), .int (M.1 53), .int (M.1 58)]
def cLs (G : WG) (A : AD) (M : MS) (i : Nat) : EC := oB 0 [.int (A.2.2.1 i), .ref (if A.2.1 i = 0 then gE G else A.1 2 i), .int (nI (len M i))]
def cDt (G : WG) (A : AD) (M : MS) (i : Nat) : EC := aR 3 (A.2.1 i) (lstF (len M i) (elt A i))
def cKp (G : WG) (A : AD) (M : MS) (i : Nat) : EC := oB 6 [.int (M.2.1 3 i), .int (M.2.1 4 i), .int (M.2.1 5 i)]
def cWk (G : WG) (A : AD) (M : MS) (i : Nat) : EC := oB 11 [.int (M.2.1 7 i), .int (M.2.1 8 i), .int (M.2.1 10 i), .ref (A.1 5 i), .int (M.2.1 9 i)]
def cMr (G : WG) (A : AD) (M : MS) (i : Nat) : EC := aR 4 20 (lstF 20 (fun t => A.1 6 (20 * i + t)))
def cMm (G : WG) (A : AD) (M : MS) (i : Nat) : EC := oB 4 [.int (M.2.1 32 i), .int (M.2.1 29 i), .int (M.2.1 30 i), .int (M.2.1 31 i), .long (M.2.2 33 i), .long (M.2.2 34 i)]
def cTh (G : WG) (A : AD) (M : MS) (i : Nat) : EC := oB (tci (M.2.1 12 i)) ([.int (M.2.1 12 i), .int (M.2.1 13 i), .int (lng M i), .ref (A.1 1 (i + 4)), .long (M.2.2 18 i)] ++ tEx A M i)
def cGr (G : WG) (A : AD) (M : MS) (i : Nat) : EC := oB 2 [.int (M.2.1 22 i), .int (M.2.1 24 i), .int (M.2.1 23 i), .long (M.2.2 25 i), .long (M.2.2 26 i)]
def cLt (G : WG) (A : AD) (M : MS) (i : Nat) : EC := oB 3 [.int (M.2.1 36 i), .int (M.2.1 37 i), .int (M.2.1 38 i), .int (M.2.1 39 i), .int (M.2.1 40 i), .int (M.2.1 41 i), .long (M.2.2 44 i), .int (M.2.1 43 i), .long (M.2.2 45 i), .int (M.2.1 42 i)]
def cQu (G : WG) (A : AD) (M : MS) (i : Nat) : EC := aI 8 (fun q => if q < 8 then M.2.1 17 (8 * i + q) else 0)
def cGo (G : WG) (A : AD) (M : MS) : EC := aR 6 6 (lstF 6 (A.1 12))
def cGs (G : WG) (A : AD) (M : MS) (i : Nat) : EC := aJ 20 (fun t => if t < 20 then M.2.2 47 (20 * i + t) else 0)
def cWo (G : WG) (A : AD) (M : MS) : EC := aR 6 6 (lstF 6 (A.1 14))
def cWs (G : WG) (A : AD) (M : MS) (i : Nat) : EC := aJ 20 (fun t => if t < 20 then M.2.2 48 (20 * i + t) else 0)
def cTo (G : WG) (A : AD) (M : MS) : EC := aR 5 6 (lstF 6 (A.1 16))
def cTr (G : WG) (A : AD) (M : MS) (i : Nat) : EC := oB 9 [if M.2.1 54 i = 1 then .ref (A.1 7 (nx (M.2.1 55 i))) else .null, if M.2.1 54 i = 2 then .ref (A.1 9 (nx (M.2.1 55 i))) else .null, if M.2.1 54 i = 3 then .ref (A.1 17 i) else .null, if M.2.1 54 i = 4 then .ref (A.1 17 i) else .null]
def cRw (G : WG) (A : AD) (M : MS) (i : Nat) : EC := if M.2.1 54 i = 3 then aJ (nx (M.2.1 56 i)) (fun q => if q < nx (M.2.1 56 i) then M.2.2 57 (20 * i + q) else 0) else aZ (nx (M.2.1 56 i)) (fun q => if q < nx (M.2.1 56 i) then (if M.2.2 57 (20 * i + q) = 0 then 0 else 1) else 0)
def cc (G : WG) (A : AD) (M : MS) (k i : Nat) : EC := match k with
  | 0 => cBd G A M
  | 1 => cLs G A M i
  | 2 => cDt G A M i
  | 3 => cKp G A M i
  | 4 => cWk G A M i
  | 5 => cMr G A M i
  | 6 => cMm G A M i
  | 7 => cTh G A M i
  | 8 => cGr G A M i
  | 9 => cLt G A M i
  | 10 => cQu G A M i
  | 11 => cGo G A M
  | 12 => cGs G A M i
  | 13 => cWo G A M
  | 14 => cWs G A M i
  | 15 => cTo G A M
  | 16 => cTr G A M i
  | 17 => cRw G A M i
  | _ => e_nil
/-- the heap holds the class's cells, each where the book says, and the protected ones beside them -/
def RH (G : WG) (hp : Hp) (A : AD) (M : MS) (h : Hp) : Prop :=
  (∀ k i, vld A M k i → h (A.1 k i) = some (cc G A M k i)) ∧
  (∀ k i k' i', vld A M k i → vld A M k' i' → A.1 k i = A.1 k' i' → k = k' ∧ i = i') ∧
  (∀ a e, hp a = some e → h a = some e ∧ ∀ k i, vld A M k i → A.1 k i ≠ a) ∧
  hp (gE G) = some e_nil ∧ (∀ i, i < 4 + nx (M.1 11) → len M i ≤ A.2.1 i ∧ A.2.1 i ≤ 600) ∧
  ∀ t, t < nx (M.1 11) → ¬ M.2.1 20 t = 0 → A.2.2.2 t = M.2.2 19 t
section RHS
variable {G : WG} {hp h h' : Hp} {A A' : AD} {M M' : MS}
theorem RH.at (hR : RH G hp A M h) {k i : Nat} (hv : vld A M k i) : h (A.1 k i) = some (cc G A M k i) := hR.1 k i hv
theorem RH.ne (hR : RH G hp A M h) {k i k' i' : Nat} (hv : vld A M k i) (hv' : vld A M k' i') (hn : ¬ (k = k' ∧ i = i')) : A.1 k i ≠ A.1 k' i' := fun e => hn (hR.2.1 k i k' i' hv hv' e)
theorem RH.pr (hR : RH G hp A M h) {a : Nat} {e : EC} (ha : hp a = some e) : h a = some e := (hR.2.2.1 a e ha).1
theorem RH.nil (hR : RH G hp A M h) : h (gE G) = some e_nil := hR.pr hR.2.2.2.1
/-- one cell changes -/
theorem RH.upd (hR : RH G hp A M h) {k i : Nat} (hv : vld A M k i) (hA1 : A'.1 = A.1) (hA2 : A'.2.1 = A.2.1) (hvv : ∀ k' i', vld A' M' k' i' → vld A M k' i') (hcell : h' (A.1 k i) = some (cc G A' M' k i)) (hfr : ∀ q, q ≠ A.1 k i → h' q = h q)
    (hcc : ∀ k' i', vld A M k' i' → ¬ (k' = k ∧ i' = i) → cc G A' M' k' i' = cc G A M k' i') (hN : M'.1 11 = M.1 11) (hlen : ∀ j, len M' j = len M j) (hce : ∀ t, t < nx (M'.1 11) → ¬ M'.2.1 20 t = 0 → A'.2.2.2 t = M'.2.2 19 t) : RH G hp A' M' h' := by
  obtain ⟨h1, h2, h3, h4, h5, h6⟩ := hR
  refine ⟨fun k' i' hv' => ?_, fun k1 i1 k2 i2 hv1 hv2 e => ?_, fun a e ha => ?_, h4, fun j hj => ?_, hce⟩
  · rw [hA1]
    have hw := hvv k' i' hv'
    by_cases hk : k' = k ∧ i' = i
    · obtain ⟨rfl, rfl⟩ := hk; exact hcell
    · rw [hfr _ (fun e => hk (h2 k' i' k i hw hv e)), h1 k' i' hw, hcc k' i' hw hk]
  · rw [hA1] at e
    exact h2 k1 i1 k2 i2 (hvv _ _ hv1) (hvv _ _ hv2) e
  · obtain ⟨e1, e2⟩ := h3 a e ha
    refine ⟨by rw [hfr a (fun z => e2 k i hv z.symm)]; exact e1, fun k' i' hv' => ?_⟩
    rw [hA1]; exact e2 k' i' (hvv _ _ hv')
  · rw [hlen, hA2]; rw [hN] at hj; exact h5 j hj
/-- a fresh cell is protected -/
theorem RH.alloc (hR : RH G hp A M h) {a : Nat} (ha : h a = none) (e : EC) : RH G (up hp a e) A M (up h a e) := by
  obtain ⟨h1, h2, h3, h4, h5, h6⟩ := hR
  have hna : ∀ k i, vld A M k i → A.1 k i ≠ a := fun k i hv z => by have := h1 k i hv; rw [z, ha] at this; cases this
  refine ⟨fun k i hv => by rw [up_n _ (hna k i hv)]; exact h1 k i hv, h2, fun b e' hb => ?_, ?_, h5, h6⟩
  · by_cases z : b = a
    · subst z; rw [up_s] at hb; cases hb; exact ⟨up_s .., hna⟩
    · rw [up_n _ z] at hb; exact ⟨by rw [up_n _ z]; exact (h3 b e' hb).1, (h3 b e' hb).2⟩
  · rw [up_n _ (fun z => by have := (h3 _ _ h4).1; rw [z, ha] at this; cases this)]; exact h4
/-- a protected cell changes -/
theorem RH.upp (hR : RH G hp A M h) {a : Nat} {e : EC} (ha : hp a = some e) (hne : a ≠ gE G) {e' : EC} (hc : h' a = some e') (hfr : ∀ q, q ≠ a → h' q = h q) : RH G (up hp a e') A M h' := by
  obtain ⟨h1, h2, h3, h4, h5, h6⟩ := hR
  have hna := (h3 a e ha).2
  refine ⟨fun k i hv => by rw [hfr _ (hna k i hv)]; exact h1 k i hv, h2, fun b e'' hb => ?_, ?_, h5, h6⟩
  · by_cases z : b = a
    · subst z; rw [up_s] at hb; cases hb; exact ⟨hc, hna⟩
    · rw [up_n _ z] at hb; exact ⟨by rw [hfr b z]; exact (h3 b e'' hb).1, (h3 b e'' hb).2⟩
  · rw [up_n _ (Ne.symm hne)]; exact h4
theorem RH.weaken (hR : RH G hp A M h) {hp' : Hp} (hw : ∀ a e, hp' a = some e → hp a = some e) (hg : hp' (gE G) = some e_nil) : RH G hp' A M h := ⟨hR.1, hR.2.1, fun a e ha => hR.2.2.1 a e (hw a e ha), hg, hR.2.2.2.2⟩
/-- only the heap's other cells differ -/
theorem RH.frame (hR : RH G hp A M h) (hf : ∀ k i, vld A M k i → h' (A.1 k i) = h (A.1 k i)) (hf2 : ∀ a e, hp a = some e → h' a = h a) : RH G hp A M h' := ⟨fun k i hv => by rw [hf k i hv]; exact hR.1 k i hv, hR.2.1, fun a e ha => ⟨by rw [hf2 a e ha]; exact (hR.2.2.1 a e ha).1, (hR.2.2.1 a e ha).2⟩, hR.2.2.2⟩
def chg (M M' : MS) (fI fL : List Nat) (j : Nat) : Prop := M'.1 = M.1 ∧ (∀ f i, f ∉ fI ∨ i ≠ j → M'.2.1 f i = M.2.1 f i) ∧ ∀ f i, f ∉ fL ∨ i ≠ j → M'.2.2 f i = M.2.2 f i
theorem chg.refl (M : MS) (fI fL : List Nat) (j : Nat) : chg M M fI fL j := ⟨rfl, fun _ _ _ => rfl, fun _ _ _ => rfl⟩
theorem chg.sI {fI fL : List Nat} {j f : Nat} (h : chg M M' fI fL j) (hf : f ∈ fI) (v : Int32) : chg M (sI M' f j v) fI fL j := by
  refine ⟨h.1, fun g i hg => ?_, h.2.2⟩
  rw [← h.2.1 g i hg]
  by_cases e : g = f
  · subst e
    exact sI_n _ _ _ _ (hg.resolve_left (fun z => z hf))
  · rw [sI_k _ _ _ e]
theorem chg.sL {fI fL : List Nat} {j f : Nat} (h : chg M M' fI fL j) (hf : f ∈ fL) (v : Int64) : chg M (sL M' f j v) fI fL j := by
  refine ⟨h.1, h.2.1, fun g i hg => ?_⟩
  rw [← h.2.2 g i hg]
  by_cases e : g = f
  · subst e
    exact sL_n _ _ _ _ (hg.resolve_left (fun z => z hf))
  · rw [sL_k _ _ _ e]
theorem vld_lt {k i : Nat} (h : vld A M k i) : k < 18 := by
  unfold vld at h
  split at h <;> first | omega | exact h.elim
theorem elt_congr (e : A'.1 = A.1) (i : Nat) : elt A' i = elt A i := by
  match i with
  | 0 | 1 | 2 | 3 => unfold elt; rw [e]
  | t + 4 => show (fun i => A'.1 8 (20 * t + i)) = (fun i => A.1 8 (20 * t + i)); rw [e]
theorem RH.k3 (hR : RH G hp A M h) {j : Nat} (hc : chg M M' [5] [] j) (hv : vld A M 3 j) (hcell : h' (A.1 3 j) = some (cc G A M' 3 j)) (hfr : ∀ q, q ≠ A.1 3 j → h' q = h q) : RH G hp A M' h' := by
  obtain ⟨c1, c2, c3⟩ := hc
  have hlen : ∀ q, len M' q = len M q := fun q => by
    match q with
    | 0 | 1 | 2 | 3 => unfold len; rw [c1]
    | t + 4 => show nx (M'.2.1 21 t) = nx (M.2.1 21 t); rw [c2 21 t (Or.inl (by decide))]
  have hvv : ∀ k' i', vld A M' k' i' → vld A M k' i' := by
    intro k' i' hv'
    have hk := vld_lt hv'
    rcases (by omega : k' = 0 ∨ k' = 1 ∨ k' = 2 ∨ k' = 3 ∨ k' = 4 ∨ k' = 5 ∨ k' = 6 ∨ k' = 7 ∨ k' = 8 ∨ k' = 9 ∨ k' = 10 ∨ k' = 11 ∨ k' = 12 ∨ k' = 13 ∨ k' = 14 ∨ k' = 15 ∨ k' = 16 ∨ k' = 17) with rfl | rfl | rfl | rfl | rfl | rfl | rfl | rfl | rfl | rfl | rfl | rfl | rfl | rfl | rfl | rfl | rfl | rfl
    · unfold vld at hv' ⊢; simpa only [c1] using hv'
    · unfold vld at hv' ⊢; simpa only [c1] using hv'
    · unfold vld at hv' ⊢; simpa only [c1] using hv'
    · unfold vld at hv' ⊢; simpa only [c1] using hv'
    · unfold vld at hv' ⊢; simpa only [c1] using hv'
    · unfold vld at hv' ⊢; simpa only [c1] using hv'
    · unfold vld at hv' ⊢; simpa only [c1] using hv'
    · unfold vld at hv' ⊢; simpa only [c1] using hv'
    · unfold vld at hv' ⊢; simpa only [c1, c2 21 _ (Or.inl (by decide : (21 : Nat) ∉ ([5] : List Nat)))] using hv'
    · unfold vld at hv' ⊢; simpa only [c1] using hv'
    · unfold vld at hv' ⊢; simpa only [c1, c2 12 _ (Or.inl (by decide : (12 : Nat) ∉ ([5] : List Nat)))] using hv'
    · unfold vld at hv' ⊢; simpa only [c1] using hv'
    · unfold vld at hv' ⊢; simpa only [c1] using hv'
    · unfold vld at hv' ⊢; simpa only [c1] using hv'
    · unfold vld at hv' ⊢; simpa only [c1] using hv'
    · unfold vld at hv' ⊢; simpa only [c1] using hv'
    · unfold vld at hv' ⊢; simpa only [c1] using hv'
    · unfold vld at hv' ⊢; simpa only [c1, c2 54 _ (Or.inl (by decide : (54 : Nat) ∉ ([5] : List Nat)))] using hv'
  have hcc : ∀ k' i', vld A M k' i' → ¬ (k' = 3 ∧ i' = j) → cc G A M' k' i' = cc G A M k' i' := by
    intro k' i' hv' hne
    have hk := vld_lt hv'
    clear hv'
    rcases (by omega : k' = 0 ∨ k' = 1 ∨ k' = 2 ∨ k' = 3 ∨ k' = 4 ∨ k' = 5 ∨ k' = 6 ∨ k' = 7 ∨ k' = 8 ∨ k' = 9 ∨ k' = 10 ∨ k' = 11 ∨ k' = 12 ∨ k' = 13 ∨ k' = 14 ∨ k' = 15 ∨ k' = 16 ∨ k' = 17) with rfl | rfl | rfl | rfl | rfl | rfl | rfl | rfl | rfl | rfl | rfl | rfl | rfl | rfl | rfl | rfl | rfl | rfl
    · show cBd G A M' = cBd G A M; simp only [cBd, c1]
    · show cLs G A M' i' = cLs G A M i'; simp only [cLs, c1, hlen]
    · show cDt G A M' i' = cDt G A M i'; simp only [cDt, c1, hlen]
    · show cKp G A M' i' = cKp G A M i'; simp only [cKp, c1, c2 3 i' (Or.inl (by decide)), c2 4 i' (Or.inl (by decide)), c2 5 i' (Or.inr (fun e => hne ⟨rfl, e⟩))]
    · show cWk G A M' i' = cWk G A M i'; simp only [cWk, c1, c2 7 i' (Or.inl (by decide)), c2 8 i' (Or.inl (by decide)), c2 9 i' (Or.inl (by decide)), c2 10 i' (Or.inl (by decide))]
    · show cMr G A M' i' = cMr G A M i'; simp only [cMr, c1]
    · show cMm G A M' i' = cMm G A M i'; simp only [cMm, c1, c2 29 i' (Or.inl (by decide)), c2 30 i' (Or.inl (by decide)), c2 31 i' (Or.inl (by decide)), c2 32 i' (Or.inl (by decide)), c3 33 i' (Or.inl (by decide)), c3 34 i' (Or.inl (by decide))]
    · show cTh G A M' i' = cTh G A M i'; simp only [cTh, tEx, lng, c1, c2 12 i' (Or.inl (by decide)), c2 13 i' (Or.inl (by decide)), c2 14 i' (Or.inl (by decide)), c2 15 i' (Or.inl (by decide)), c2 16 i' (Or.inl (by decide)), c2 20 i' (Or.inl (by decide)), c3 18 i' (Or.inl (by decide))]
    · show cGr G A M' i' = cGr G A M i'; simp only [cGr, c1, c2 22 i' (Or.inl (by decide)), c2 23 i' (Or.inl (by decide)), c2 24 i' (Or.inl (by decide)), c3 25 i' (Or.inl (by decide)), c3 26 i' (Or.inl (by decide))]
    · show cLt G A M' i' = cLt G A M i'; simp only [cLt, c1, c2 36 i' (Or.inl (by decide)), c2 37 i' (Or.inl (by decide)), c2 38 i' (Or.inl (by decide)), c2 39 i' (Or.inl (by decide)), c2 40 i' (Or.inl (by decide)), c2 41 i' (Or.inl (by decide)), c2 42 i' (Or.inl (by decide)), c2 43 i' (Or.inl (by decide)), c3 44 i' (Or.inl (by decide)), c3 45 i' (Or.inl (by decide))]
    · show cQu G A M' i' = cQu G A M i'; simp only [cQu, c1, show ∀ q, M'.2.1 17 q = M.2.1 17 q from fun q => c2 17 q (Or.inl (by decide))]
    · show cGo G A M' = cGo G A M; simp only [cGo, c1]
    · show cGs G A M' i' = cGs G A M i'; simp only [cGs, c1, show ∀ q, M'.2.2 47 q = M.2.2 47 q from fun q => c3 47 q (Or.inl (by decide))]
    · show cWo G A M' = cWo G A M; simp only [cWo, c1]
    · show cWs G A M' i' = cWs G A M i'; simp only [cWs, c1, show ∀ q, M'.2.2 48 q = M.2.2 48 q from fun q => c3 48 q (Or.inl (by decide))]
    · show cTo G A M' = cTo G A M; simp only [cTo, c1]
    · show cTr G A M' i' = cTr G A M i'; simp only [cTr, c1, c2 54 i' (Or.inl (by decide)), c2 55 i' (Or.inl (by decide))]
    · show cRw G A M' i' = cRw G A M i'; simp only [cRw, c1, c2 54 i' (Or.inl (by decide)), c2 56 i' (Or.inl (by decide)), show ∀ q, M'.2.2 57 q = M.2.2 57 q from fun q => c3 57 q (Or.inl (by decide))]
  exact hR.upd hv rfl rfl hvv hcell hfr hcc (by rw [c1]) hlen (fun t ht hn => by rw [c2 20 t (Or.inl (by decide))] at hn; rw [c1] at ht; rw [c3 19 t (Or.inl (by decide))]; exact hR.2.2.2.2.2 t ht hn)
theorem RH.k4 (hR : RH G hp A M h) {j : Nat} (hc : chg M M' [9, 10] [] j) (hv : vld A M 4 j) (hcell : h' (A.1 4 j) = some (cc G A M' 4 j)) (hfr : ∀ q, q ≠ A.1 4 j → h' q = h q) : RH G hp A M' h' := by
  obtain ⟨c1, c2, c3⟩ := hc
  have hlen : ∀ q, len M' q = len M q := fun q => by
    match q with
    | 0 | 1 | 2 | 3 => unfold len; rw [c1]
    | t + 4 => show nx (M'.2.1 21 t) = nx (M.2.1 21 t); rw [c2 21 t (Or.inl (by decide))]
  have hvv : ∀ k' i', vld A M' k' i' → vld A M k' i' := by
    intro k' i' hv'
    have hk := vld_lt hv'
    rcases (by omega : k' = 0 ∨ k' = 1 ∨ k' = 2 ∨ k' = 3 ∨ k' = 4 ∨ k' = 5 ∨ k' = 6 ∨ k' = 7 ∨ k' = 8 ∨ k' = 9 ∨ k' = 10 ∨ k' = 11 ∨ k' = 12 ∨ k' = 13 ∨ k' = 14 ∨ k' = 15 ∨ k' = 16 ∨ k' = 17) with rfl | rfl | rfl | rfl | rfl | rfl | rfl | rfl | rfl | rfl | rfl | rfl | rfl | rfl | rfl | rfl | rfl | rfl
    · unfold vld at hv' ⊢; simpa only [c1] using hv'
    · unfold vld at hv' ⊢; simpa only [c1] using hv'
    · unfold vld at hv' ⊢; simpa only [c1] using hv'
    · unfold vld at hv' ⊢; simpa only [c1] using hv'
    · unfold vld at hv' ⊢; simpa only [c1] using hv'
    · unfold vld at hv' ⊢; simpa only [c1] using hv'
    · unfold vld at hv' ⊢; simpa only [c1] using hv'
    · unfold vld at hv' ⊢; simpa only [c1] using hv'
    · unfold vld at hv' ⊢; simpa only [c1, c2 21 _ (Or.inl (by decide : (21 : Nat) ∉ ([9, 10] : List Nat)))] using hv'
    · unfold vld at hv' ⊢; simpa only [c1] using hv'
    · unfold vld at hv' ⊢; simpa only [c1, c2 12 _ (Or.inl (by decide : (12 : Nat) ∉ ([9, 10] : List Nat)))] using hv'
    · unfold vld at hv' ⊢; simpa only [c1] using hv'
    · unfold vld at hv' ⊢; simpa only [c1] using hv'
    · unfold vld at hv' ⊢; simpa only [c1] using hv'
    · unfold vld at hv' ⊢; simpa only [c1] using hv'
    · unfold vld at hv' ⊢; simpa only [c1] using hv'
    · unfold vld at hv' ⊢; simpa only [c1] using hv'
    · unfold vld at hv' ⊢; simpa only [c1, c2 54 _ (Or.inl (by decide : (54 : Nat) ∉ ([9, 10] : List Nat)))] using hv'
  have hcc : ∀ k' i', vld A M k' i' → ¬ (k' = 4 ∧ i' = j) → cc G A M' k' i' = cc G A M k' i' := by
    intro k' i' hv' hne
    have hk := vld_lt hv'
    clear hv'
    rcases (by omega : k' = 0 ∨ k' = 1 ∨ k' = 2 ∨ k' = 3 ∨ k' = 4 ∨ k' = 5 ∨ k' = 6 ∨ k' = 7 ∨ k' = 8 ∨ k' = 9 ∨ k' = 10 ∨ k' = 11 ∨ k' = 12 ∨ k' = 13 ∨ k' = 14 ∨ k' = 15 ∨ k' = 16 ∨ k' = 17) with rfl | rfl | rfl | rfl | rfl | rfl | rfl | rfl | rfl | rfl | rfl | rfl | rfl | rfl | rfl | rfl | rfl | rfl
    · show cBd G A M' = cBd G A M; simp only [cBd, c1]
    · show cLs G A M' i' = cLs G A M i'; simp only [cLs, c1, hlen]
    · show cDt G A M' i' = cDt G A M i'; simp only [cDt, c1, hlen]
    · show cKp G A M' i' = cKp G A M i'; simp only [cKp, c1, c2 3 i' (Or.inl (by decide)), c2 4 i' (Or.inl (by decide)), c2 5 i' (Or.inl (by decide))]
    · show cWk G A M' i' = cWk G A M i'; simp only [cWk, c1, c2 7 i' (Or.inl (by decide)), c2 8 i' (Or.inl (by decide)), c2 9 i' (Or.inr (fun e => hne ⟨rfl, e⟩)), c2 10 i' (Or.inr (fun e => hne ⟨rfl, e⟩))]
    · show cMr G A M' i' = cMr G A M i'; simp only [cMr, c1]
    · show cMm G A M' i' = cMm G A M i'; simp only [cMm, c1, c2 29 i' (Or.inl (by decide)), c2 30 i' (Or.inl (by decide)), c2 31 i' (Or.inl (by decide)), c2 32 i' (Or.inl (by decide)), c3 33 i' (Or.inl (by decide)), c3 34 i' (Or.inl (by decide))]
    · show cTh G A M' i' = cTh G A M i'; simp only [cTh, tEx, lng, c1, c2 12 i' (Or.inl (by decide)), c2 13 i' (Or.inl (by decide)), c2 14 i' (Or.inl (by decide)), c2 15 i' (Or.inl (by decide)), c2 16 i' (Or.inl (by decide)), c2 20 i' (Or.inl (by decide)), c3 18 i' (Or.inl (by decide))]
    · show cGr G A M' i' = cGr G A M i'; simp only [cGr, c1, c2 22 i' (Or.inl (by decide)), c2 23 i' (Or.inl (by decide)), c2 24 i' (Or.inl (by decide)), c3 25 i' (Or.inl (by decide)), c3 26 i' (Or.inl (by decide))]
    · show cLt G A M' i' = cLt G A M i'; simp only [cLt, c1, c2 36 i' (Or.inl (by decide)), c2 37 i' (Or.inl (by decide)), c2 38 i' (Or.inl (by decide)), c2 39 i' (Or.inl (by decide)), c2 40 i' (Or.inl (by decide)), c2 41 i' (Or.inl (by decide)), c2 42 i' (Or.inl (by decide)), c2 43 i' (Or.inl (by decide)), c3 44 i' (Or.inl (by decide)), c3 45 i' (Or.inl (by decide))]
    · show cQu G A M' i' = cQu G A M i'; simp only [cQu, c1, show ∀ q, M'.2.1 17 q = M.2.1 17 q from fun q => c2 17 q (Or.inl (by decide))]
    · show cGo G A M' = cGo G A M; simp only [cGo, c1]
    · show cGs G A M' i' = cGs G A M i'; simp only [cGs, c1, show ∀ q, M'.2.2 47 q = M.2.2 47 q from fun q => c3 47 q (Or.inl (by decide))]
    · show cWo G A M' = cWo G A M; simp only [cWo, c1]
    · show cWs G A M' i' = cWs G A M i'; simp only [cWs, c1, show ∀ q, M'.2.2 48 q = M.2.2 48 q from fun q => c3 48 q (Or.inl (by decide))]
    · show cTo G A M' = cTo G A M; simp only [cTo, c1]
    · show cTr G A M' i' = cTr G A M i'; simp only [cTr, c1, c2 54 i' (Or.inl (by decide)), c2 55 i' (Or.inl (by decide))]
    · show cRw G A M' i' = cRw G A M i'; simp only [cRw, c1, c2 54 i' (Or.inl (by decide)), c2 56 i' (Or.inl (by decide)), show ∀ q, M'.2.2 57 q = M.2.2 57 q from fun q => c3 57 q (Or.inl (by decide))]
  exact hR.upd hv rfl rfl hvv hcell hfr hcc (by rw [c1]) hlen (fun t ht hn => by rw [c2 20 t (Or.inl (by decide))] at hn; rw [c1] at ht; rw [c3 19 t (Or.inl (by decide))]; exact hR.2.2.2.2.2 t ht hn)
theorem RH.k6 (hR : RH G hp A M h) {j : Nat} (hc : chg M M' [29, 30, 31, 32] [33, 34] j) (hv : vld A M 6 j) (hcell : h' (A.1 6 j) = some (cc G A M' 6 j)) (hfr : ∀ q, q ≠ A.1 6 j → h' q = h q) : RH G hp A M' h' := by
  obtain ⟨c1, c2, c3⟩ := hc
  have hlen : ∀ q, len M' q = len M q := fun q => by
    match q with
    | 0 | 1 | 2 | 3 => unfold len; rw [c1]
    | t + 4 => show nx (M'.2.1 21 t) = nx (M.2.1 21 t); rw [c2 21 t (Or.inl (by decide))]
  have hvv : ∀ k' i', vld A M' k' i' → vld A M k' i' := by
    intro k' i' hv'
    have hk := vld_lt hv'
    rcases (by omega : k' = 0 ∨ k' = 1 ∨ k' = 2 ∨ k' = 3 ∨ k' = 4 ∨ k' = 5 ∨ k' = 6 ∨ k' = 7 ∨ k' = 8 ∨ k' = 9 ∨ k' = 10 ∨ k' = 11 ∨ k' = 12 ∨ k' = 13 ∨ k' = 14 ∨ k' = 15 ∨ k' = 16 ∨ k' = 17) with rfl | rfl | rfl | rfl | rfl | rfl | rfl | rfl | rfl | rfl | rfl | rfl | rfl | rfl | rfl | rfl | rfl | rfl
    · unfold vld at hv' ⊢; simpa only [c1] using hv'
    · unfold vld at hv' ⊢; simpa only [c1] using hv'
    · unfold vld at hv' ⊢; simpa only [c1] using hv'
    · unfold vld at hv' ⊢; simpa only [c1] using hv'
    · unfold vld at hv' ⊢; simpa only [c1] using hv'
    · unfold vld at hv' ⊢; simpa only [c1] using hv'
    · unfold vld at hv' ⊢; simpa only [c1] using hv'
    · unfold vld at hv' ⊢; simpa only [c1] using hv'
    · unfold vld at hv' ⊢; simpa only [c1, c2 21 _ (Or.inl (by decide : (21 : Nat) ∉ ([29, 30, 31, 32] : List Nat)))] using hv'
    · unfold vld at hv' ⊢; simpa only [c1] using hv'
    · unfold vld at hv' ⊢; simpa only [c1, c2 12 _ (Or.inl (by decide : (12 : Nat) ∉ ([29, 30, 31, 32] : List Nat)))] using hv'
    · unfold vld at hv' ⊢; simpa only [c1] using hv'
    · unfold vld at hv' ⊢; simpa only [c1] using hv'
    · unfold vld at hv' ⊢; simpa only [c1] using hv'
    · unfold vld at hv' ⊢; simpa only [c1] using hv'
    · unfold vld at hv' ⊢; simpa only [c1] using hv'
    · unfold vld at hv' ⊢; simpa only [c1] using hv'
    · unfold vld at hv' ⊢; simpa only [c1, c2 54 _ (Or.inl (by decide : (54 : Nat) ∉ ([29, 30, 31, 32] : List Nat)))] using hv'
  have hcc : ∀ k' i', vld A M k' i' → ¬ (k' = 6 ∧ i' = j) → cc G A M' k' i' = cc G A M k' i' := by
    intro k' i' hv' hne
    have hk := vld_lt hv'
    clear hv'
    rcases (by omega : k' = 0 ∨ k' = 1 ∨ k' = 2 ∨ k' = 3 ∨ k' = 4 ∨ k' = 5 ∨ k' = 6 ∨ k' = 7 ∨ k' = 8 ∨ k' = 9 ∨ k' = 10 ∨ k' = 11 ∨ k' = 12 ∨ k' = 13 ∨ k' = 14 ∨ k' = 15 ∨ k' = 16 ∨ k' = 17) with rfl | rfl | rfl | rfl | rfl | rfl | rfl | rfl | rfl | rfl | rfl | rfl | rfl | rfl | rfl | rfl | rfl | rfl
    · show cBd G A M' = cBd G A M; simp only [cBd, c1]
    · show cLs G A M' i' = cLs G A M i'; simp only [cLs, c1, hlen]
    · show cDt G A M' i' = cDt G A M i'; simp only [cDt, c1, hlen]
    · show cKp G A M' i' = cKp G A M i'; simp only [cKp, c1, c2 3 i' (Or.inl (by decide)), c2 4 i' (Or.inl (by decide)), c2 5 i' (Or.inl (by decide))]
    · show cWk G A M' i' = cWk G A M i'; simp only [cWk, c1, c2 7 i' (Or.inl (by decide)), c2 8 i' (Or.inl (by decide)), c2 9 i' (Or.inl (by decide)), c2 10 i' (Or.inl (by decide))]
    · show cMr G A M' i' = cMr G A M i'; simp only [cMr, c1]
    · show cMm G A M' i' = cMm G A M i'; simp only [cMm, c1, c2 29 i' (Or.inr (fun e => hne ⟨rfl, e⟩)), c2 30 i' (Or.inr (fun e => hne ⟨rfl, e⟩)), c2 31 i' (Or.inr (fun e => hne ⟨rfl, e⟩)), c2 32 i' (Or.inr (fun e => hne ⟨rfl, e⟩)), c3 33 i' (Or.inr (fun e => hne ⟨rfl, e⟩)), c3 34 i' (Or.inr (fun e => hne ⟨rfl, e⟩))]
    · show cTh G A M' i' = cTh G A M i'; simp only [cTh, tEx, lng, c1, c2 12 i' (Or.inl (by decide)), c2 13 i' (Or.inl (by decide)), c2 14 i' (Or.inl (by decide)), c2 15 i' (Or.inl (by decide)), c2 16 i' (Or.inl (by decide)), c2 20 i' (Or.inl (by decide)), c3 18 i' (Or.inl (by decide))]
    · show cGr G A M' i' = cGr G A M i'; simp only [cGr, c1, c2 22 i' (Or.inl (by decide)), c2 23 i' (Or.inl (by decide)), c2 24 i' (Or.inl (by decide)), c3 25 i' (Or.inl (by decide)), c3 26 i' (Or.inl (by decide))]
    · show cLt G A M' i' = cLt G A M i'; simp only [cLt, c1, c2 36 i' (Or.inl (by decide)), c2 37 i' (Or.inl (by decide)), c2 38 i' (Or.inl (by decide)), c2 39 i' (Or.inl (by decide)), c2 40 i' (Or.inl (by decide)), c2 41 i' (Or.inl (by decide)), c2 42 i' (Or.inl (by decide)), c2 43 i' (Or.inl (by decide)), c3 44 i' (Or.inl (by decide)), c3 45 i' (Or.inl (by decide))]
    · show cQu G A M' i' = cQu G A M i'; simp only [cQu, c1, show ∀ q, M'.2.1 17 q = M.2.1 17 q from fun q => c2 17 q (Or.inl (by decide))]
    · show cGo G A M' = cGo G A M; simp only [cGo, c1]
    · show cGs G A M' i' = cGs G A M i'; simp only [cGs, c1, show ∀ q, M'.2.2 47 q = M.2.2 47 q from fun q => c3 47 q (Or.inl (by decide))]
    · show cWo G A M' = cWo G A M; simp only [cWo, c1]
    · show cWs G A M' i' = cWs G A M i'; simp only [cWs, c1, show ∀ q, M'.2.2 48 q = M.2.2 48 q from fun q => c3 48 q (Or.inl (by decide))]
    · show cTo G A M' = cTo G A M; simp only [cTo, c1]
    · show cTr G A M' i' = cTr G A M i'; simp only [cTr, c1, c2 54 i' (Or.inl (by decide)), c2 55 i' (Or.inl (by decide))]
    · show cRw G A M' i' = cRw G A M i'; simp only [cRw, c1, c2 54 i' (Or.inl (by decide)), c2 56 i' (Or.inl (by decide)), show ∀ q, M'.2.2 57 q = M.2.2 57 q from fun q => c3 57 q (Or.inl (by decide))]
  exact hR.upd hv rfl rfl hvv hcell hfr hcc (by rw [c1]) hlen (fun t ht hn => by rw [c2 20 t (Or.inl (by decide))] at hn; rw [c1] at ht; rw [c3 19 t (Or.inl (by decide))]; exact hR.2.2.2.2.2 t ht hn)
theorem RH.k7 (hR : RH G hp A M h) {j : Nat} (hc : chg M M' [15, 16, 20] [18, 19] j) (hv : vld A M 7 j) (hce : ∀ t, t < nx (M'.1 11) → ¬ M'.2.1 20 t = 0 → A'.2.2.2 t = M'.2.2 19 t) (hA : A'.1 = A.1 ∧ A'.2.1 = A.2.1 ∧ A'.2.2.1 = A.2.2.1 ∧ ∀ t, t ≠ j → A'.2.2.2 t = A.2.2.2 t) (hcell : h' (A.1 7 j) = some (cc G A' M' 7 j)) (hfr : ∀ q, q ≠ A.1 7 j → h' q = h q) : RH G hp A' M' h' := by
  obtain ⟨c1, c2, c3⟩ := hc
  obtain ⟨a1, a2, a3, a4⟩ := hA
  have hlen : ∀ q, len M' q = len M q := fun q => by
    match q with
    | 0 | 1 | 2 | 3 => unfold len; rw [c1]
    | t + 4 => show nx (M'.2.1 21 t) = nx (M.2.1 21 t); rw [c2 21 t (Or.inl (by decide))]
  have hvv : ∀ k' i', vld A' M' k' i' → vld A M k' i' := by
    intro k' i' hv'
    have hk := vld_lt hv'
    rcases (by omega : k' = 0 ∨ k' = 1 ∨ k' = 2 ∨ k' = 3 ∨ k' = 4 ∨ k' = 5 ∨ k' = 6 ∨ k' = 7 ∨ k' = 8 ∨ k' = 9 ∨ k' = 10 ∨ k' = 11 ∨ k' = 12 ∨ k' = 13 ∨ k' = 14 ∨ k' = 15 ∨ k' = 16 ∨ k' = 17) with rfl | rfl | rfl | rfl | rfl | rfl | rfl | rfl | rfl | rfl | rfl | rfl | rfl | rfl | rfl | rfl | rfl | rfl
    · unfold vld at hv' ⊢; simpa only [c1] using hv'
    · unfold vld at hv' ⊢; simpa only [c1] using hv'
    · unfold vld at hv' ⊢; simpa only [c1, a2] using hv'
    · unfold vld at hv' ⊢; simpa only [c1] using hv'
    · unfold vld at hv' ⊢; simpa only [c1] using hv'
    · unfold vld at hv' ⊢; simpa only [c1] using hv'
    · unfold vld at hv' ⊢; simpa only [c1] using hv'
    · unfold vld at hv' ⊢; simpa only [c1] using hv'
    · unfold vld at hv' ⊢; simpa only [c1, c2 21 _ (Or.inl (by decide : (21 : Nat) ∉ ([15, 16, 20] : List Nat)))] using hv'
    · unfold vld at hv' ⊢; simpa only [c1] using hv'
    · unfold vld at hv' ⊢; simpa only [c1, c2 12 _ (Or.inl (by decide : (12 : Nat) ∉ ([15, 16, 20] : List Nat)))] using hv'
    · unfold vld at hv' ⊢; simpa only [c1] using hv'
    · unfold vld at hv' ⊢; simpa only [c1] using hv'
    · unfold vld at hv' ⊢; simpa only [c1] using hv'
    · unfold vld at hv' ⊢; simpa only [c1] using hv'
    · unfold vld at hv' ⊢; simpa only [c1] using hv'
    · unfold vld at hv' ⊢; simpa only [c1] using hv'
    · unfold vld at hv' ⊢; simpa only [c1, c2 54 _ (Or.inl (by decide : (54 : Nat) ∉ ([15, 16, 20] : List Nat)))] using hv'
  have hcc : ∀ k' i', vld A M k' i' → ¬ (k' = 7 ∧ i' = j) → cc G A' M' k' i' = cc G A M k' i' := by
    intro k' i' hv' hne
    have hk := vld_lt hv'
    clear hv'
    rcases (by omega : k' = 0 ∨ k' = 1 ∨ k' = 2 ∨ k' = 3 ∨ k' = 4 ∨ k' = 5 ∨ k' = 6 ∨ k' = 7 ∨ k' = 8 ∨ k' = 9 ∨ k' = 10 ∨ k' = 11 ∨ k' = 12 ∨ k' = 13 ∨ k' = 14 ∨ k' = 15 ∨ k' = 16 ∨ k' = 17) with rfl | rfl | rfl | rfl | rfl | rfl | rfl | rfl | rfl | rfl | rfl | rfl | rfl | rfl | rfl | rfl | rfl | rfl
    · show cBd G A' M' = cBd G A M; simp only [cBd, c1, a1, a2, a3]
    · show cLs G A' M' i' = cLs G A M i'; simp only [cLs, c1, a1, a2, a3, hlen]
    · show cDt G A' M' i' = cDt G A M i'; have eE : elt A' i' = elt A i' := elt_congr a1 i'; simp only [cDt, c1, a1, a2, a3, hlen, eE]
    · show cKp G A' M' i' = cKp G A M i'; simp only [cKp, c1, a1, a2, a3, c2 3 i' (Or.inl (by decide)), c2 4 i' (Or.inl (by decide)), c2 5 i' (Or.inl (by decide))]
    · show cWk G A' M' i' = cWk G A M i'; simp only [cWk, c1, a1, a2, a3, c2 7 i' (Or.inl (by decide)), c2 8 i' (Or.inl (by decide)), c2 9 i' (Or.inl (by decide)), c2 10 i' (Or.inl (by decide))]
    · show cMr G A' M' i' = cMr G A M i'; simp only [cMr, c1, a1, a2, a3]
    · show cMm G A' M' i' = cMm G A M i'; simp only [cMm, c1, a1, a2, a3, c2 29 i' (Or.inl (by decide)), c2 30 i' (Or.inl (by decide)), c2 31 i' (Or.inl (by decide)), c2 32 i' (Or.inl (by decide)), c3 33 i' (Or.inl (by decide)), c3 34 i' (Or.inl (by decide))]
    · show cTh G A' M' i' = cTh G A M i'; have e4 : A'.2.2.2 i' = A.2.2.2 i' := a4 i' (fun e => hne ⟨rfl, e⟩); simp only [cTh, tEx, lng, c1, a1, a2, a3, c2 12 i' (Or.inl (by decide)), c2 13 i' (Or.inl (by decide)), c2 14 i' (Or.inl (by decide)), c2 15 i' (Or.inr (fun e => hne ⟨rfl, e⟩)), c2 16 i' (Or.inr (fun e => hne ⟨rfl, e⟩)), c2 20 i' (Or.inr (fun e => hne ⟨rfl, e⟩)), c3 18 i' (Or.inr (fun e => hne ⟨rfl, e⟩)), e4]
    · show cGr G A' M' i' = cGr G A M i'; simp only [cGr, c1, a1, a2, a3, c2 22 i' (Or.inl (by decide)), c2 23 i' (Or.inl (by decide)), c2 24 i' (Or.inl (by decide)), c3 25 i' (Or.inl (by decide)), c3 26 i' (Or.inl (by decide))]
    · show cLt G A' M' i' = cLt G A M i'; simp only [cLt, c1, a1, a2, a3, c2 36 i' (Or.inl (by decide)), c2 37 i' (Or.inl (by decide)), c2 38 i' (Or.inl (by decide)), c2 39 i' (Or.inl (by decide)), c2 40 i' (Or.inl (by decide)), c2 41 i' (Or.inl (by decide)), c2 42 i' (Or.inl (by decide)), c2 43 i' (Or.inl (by decide)), c3 44 i' (Or.inl (by decide)), c3 45 i' (Or.inl (by decide))]
    · show cQu G A' M' i' = cQu G A M i'; simp only [cQu, c1, a1, a2, a3, show ∀ q, M'.2.1 17 q = M.2.1 17 q from fun q => c2 17 q (Or.inl (by decide))]
    · show cGo G A' M' = cGo G A M; simp only [cGo, c1, a1, a2, a3]
    · show cGs G A' M' i' = cGs G A M i'; simp only [cGs, c1, a1, a2, a3, show ∀ q, M'.2.2 47 q = M.2.2 47 q from fun q => c3 47 q (Or.inl (by decide))]
    · show cWo G A' M' = cWo G A M; simp only [cWo, c1, a1, a2, a3]
    · show cWs G A' M' i' = cWs G A M i'; simp only [cWs, c1, a1, a2, a3, show ∀ q, M'.2.2 48 q = M.2.2 48 q from fun q => c3 48 q (Or.inl (by decide))]
    · show cTo G A' M' = cTo G A M; simp only [cTo, c1, a1, a2, a3]
    · show cTr G A' M' i' = cTr G A M i'; simp only [cTr, c1, a1, a2, a3, c2 54 i' (Or.inl (by decide)), c2 55 i' (Or.inl (by decide))]
    · show cRw G A' M' i' = cRw G A M i'; simp only [cRw, c1, a1, a2, a3, c2 54 i' (Or.inl (by decide)), c2 56 i' (Or.inl (by decide)), show ∀ q, M'.2.2 57 q = M.2.2 57 q from fun q => c3 57 q (Or.inl (by decide))]
  exact hR.upd hv a1 a2 hvv hcell hfr hcc (by rw [c1]) hlen hce
theorem RH.k8 (hR : RH G hp A M h) {j : Nat} (hc : chg M M' [23] [25, 26] j) (hv : vld A M 8 j) (hcell : h' (A.1 8 j) = some (cc G A M' 8 j)) (hfr : ∀ q, q ≠ A.1 8 j → h' q = h q) : RH G hp A M' h' := by
  obtain ⟨c1, c2, c3⟩ := hc
  have hlen : ∀ q, len M' q = len M q := fun q => by
    match q with
    | 0 | 1 | 2 | 3 => unfold len; rw [c1]
    | t + 4 => show nx (M'.2.1 21 t) = nx (M.2.1 21 t); rw [c2 21 t (Or.inl (by decide))]
  have hvv : ∀ k' i', vld A M' k' i' → vld A M k' i' := by
    intro k' i' hv'
    have hk := vld_lt hv'
    rcases (by omega : k' = 0 ∨ k' = 1 ∨ k' = 2 ∨ k' = 3 ∨ k' = 4 ∨ k' = 5 ∨ k' = 6 ∨ k' = 7 ∨ k' = 8 ∨ k' = 9 ∨ k' = 10 ∨ k' = 11 ∨ k' = 12 ∨ k' = 13 ∨ k' = 14 ∨ k' = 15 ∨ k' = 16 ∨ k' = 17) with rfl | rfl | rfl | rfl | rfl | rfl | rfl | rfl | rfl | rfl | rfl | rfl | rfl | rfl | rfl | rfl | rfl | rfl
    · unfold vld at hv' ⊢; simpa only [c1] using hv'
    · unfold vld at hv' ⊢; simpa only [c1] using hv'
    · unfold vld at hv' ⊢; simpa only [c1] using hv'
    · unfold vld at hv' ⊢; simpa only [c1] using hv'
    · unfold vld at hv' ⊢; simpa only [c1] using hv'
    · unfold vld at hv' ⊢; simpa only [c1] using hv'
    · unfold vld at hv' ⊢; simpa only [c1] using hv'
    · unfold vld at hv' ⊢; simpa only [c1] using hv'
    · unfold vld at hv' ⊢; simpa only [c1, c2 21 _ (Or.inl (by decide : (21 : Nat) ∉ ([23] : List Nat)))] using hv'
    · unfold vld at hv' ⊢; simpa only [c1] using hv'
    · unfold vld at hv' ⊢; simpa only [c1, c2 12 _ (Or.inl (by decide : (12 : Nat) ∉ ([23] : List Nat)))] using hv'
    · unfold vld at hv' ⊢; simpa only [c1] using hv'
    · unfold vld at hv' ⊢; simpa only [c1] using hv'
    · unfold vld at hv' ⊢; simpa only [c1] using hv'
    · unfold vld at hv' ⊢; simpa only [c1] using hv'
    · unfold vld at hv' ⊢; simpa only [c1] using hv'
    · unfold vld at hv' ⊢; simpa only [c1] using hv'
    · unfold vld at hv' ⊢; simpa only [c1, c2 54 _ (Or.inl (by decide : (54 : Nat) ∉ ([23] : List Nat)))] using hv'
  have hcc : ∀ k' i', vld A M k' i' → ¬ (k' = 8 ∧ i' = j) → cc G A M' k' i' = cc G A M k' i' := by
    intro k' i' hv' hne
    have hk := vld_lt hv'
    clear hv'
    rcases (by omega : k' = 0 ∨ k' = 1 ∨ k' = 2 ∨ k' = 3 ∨ k' = 4 ∨ k' = 5 ∨ k' = 6 ∨ k' = 7 ∨ k' = 8 ∨ k' = 9 ∨ k' = 10 ∨ k' = 11 ∨ k' = 12 ∨ k' = 13 ∨ k' = 14 ∨ k' = 15 ∨ k' = 16 ∨ k' = 17) with rfl | rfl | rfl | rfl | rfl | rfl | rfl | rfl | rfl | rfl | rfl | rfl | rfl | rfl | rfl | rfl | rfl | rfl
    · show cBd G A M' = cBd G A M; simp only [cBd, c1]
    · show cLs G A M' i' = cLs G A M i'; simp only [cLs, c1, hlen]
    · show cDt G A M' i' = cDt G A M i'; simp only [cDt, c1, hlen]
    · show cKp G A M' i' = cKp G A M i'; simp only [cKp, c1, c2 3 i' (Or.inl (by decide)), c2 4 i' (Or.inl (by decide)), c2 5 i' (Or.inl (by decide))]
    · show cWk G A M' i' = cWk G A M i'; simp only [cWk, c1, c2 7 i' (Or.inl (by decide)), c2 8 i' (Or.inl (by decide)), c2 9 i' (Or.inl (by decide)), c2 10 i' (Or.inl (by decide))]
    · show cMr G A M' i' = cMr G A M i'; simp only [cMr, c1]
    · show cMm G A M' i' = cMm G A M i'; simp only [cMm, c1, c2 29 i' (Or.inl (by decide)), c2 30 i' (Or.inl (by decide)), c2 31 i' (Or.inl (by decide)), c2 32 i' (Or.inl (by decide)), c3 33 i' (Or.inl (by decide)), c3 34 i' (Or.inl (by decide))]
    · show cTh G A M' i' = cTh G A M i'; simp only [cTh, tEx, lng, c1, c2 12 i' (Or.inl (by decide)), c2 13 i' (Or.inl (by decide)), c2 14 i' (Or.inl (by decide)), c2 15 i' (Or.inl (by decide)), c2 16 i' (Or.inl (by decide)), c2 20 i' (Or.inl (by decide)), c3 18 i' (Or.inl (by decide))]
    · show cGr G A M' i' = cGr G A M i'; simp only [cGr, c1, c2 22 i' (Or.inl (by decide)), c2 23 i' (Or.inr (fun e => hne ⟨rfl, e⟩)), c2 24 i' (Or.inl (by decide)), c3 25 i' (Or.inr (fun e => hne ⟨rfl, e⟩)), c3 26 i' (Or.inr (fun e => hne ⟨rfl, e⟩))]
    · show cLt G A M' i' = cLt G A M i'; simp only [cLt, c1, c2 36 i' (Or.inl (by decide)), c2 37 i' (Or.inl (by decide)), c2 38 i' (Or.inl (by decide)), c2 39 i' (Or.inl (by decide)), c2 40 i' (Or.inl (by decide)), c2 41 i' (Or.inl (by decide)), c2 42 i' (Or.inl (by decide)), c2 43 i' (Or.inl (by decide)), c3 44 i' (Or.inl (by decide)), c3 45 i' (Or.inl (by decide))]
    · show cQu G A M' i' = cQu G A M i'; simp only [cQu, c1, show ∀ q, M'.2.1 17 q = M.2.1 17 q from fun q => c2 17 q (Or.inl (by decide))]
    · show cGo G A M' = cGo G A M; simp only [cGo, c1]
    · show cGs G A M' i' = cGs G A M i'; simp only [cGs, c1, show ∀ q, M'.2.2 47 q = M.2.2 47 q from fun q => c3 47 q (Or.inl (by decide))]
    · show cWo G A M' = cWo G A M; simp only [cWo, c1]
    · show cWs G A M' i' = cWs G A M i'; simp only [cWs, c1, show ∀ q, M'.2.2 48 q = M.2.2 48 q from fun q => c3 48 q (Or.inl (by decide))]
    · show cTo G A M' = cTo G A M; simp only [cTo, c1]
    · show cTr G A M' i' = cTr G A M i'; simp only [cTr, c1, c2 54 i' (Or.inl (by decide)), c2 55 i' (Or.inl (by decide))]
    · show cRw G A M' i' = cRw G A M i'; simp only [cRw, c1, c2 54 i' (Or.inl (by decide)), c2 56 i' (Or.inl (by decide)), show ∀ q, M'.2.2 57 q = M.2.2 57 q from fun q => c3 57 q (Or.inl (by decide))]
  exact hR.upd hv rfl rfl hvv hcell hfr hcc (by rw [c1]) hlen (fun t ht hn => by rw [c2 20 t (Or.inl (by decide))] at hn; rw [c1] at ht; rw [c3 19 t (Or.inl (by decide))]; exact hR.2.2.2.2.2 t ht hn)
theorem RH.k9 (hR : RH G hp A M h) {j : Nat} (hc : chg M M' [42] [] j) (hv : vld A M 9 j) (hcell : h' (A.1 9 j) = some (cc G A M' 9 j)) (hfr : ∀ q, q ≠ A.1 9 j → h' q = h q) : RH G hp A M' h' := by
  obtain ⟨c1, c2, c3⟩ := hc
  have hlen : ∀ q, len M' q = len M q := fun q => by
    match q with
    | 0 | 1 | 2 | 3 => unfold len; rw [c1]
    | t + 4 => show nx (M'.2.1 21 t) = nx (M.2.1 21 t); rw [c2 21 t (Or.inl (by decide))]
  have hvv : ∀ k' i', vld A M' k' i' → vld A M k' i' := by
    intro k' i' hv'
    have hk := vld_lt hv'
    rcases (by omega : k' = 0 ∨ k' = 1 ∨ k' = 2 ∨ k' = 3 ∨ k' = 4 ∨ k' = 5 ∨ k' = 6 ∨ k' = 7 ∨ k' = 8 ∨ k' = 9 ∨ k' = 10 ∨ k' = 11 ∨ k' = 12 ∨ k' = 13 ∨ k' = 14 ∨ k' = 15 ∨ k' = 16 ∨ k' = 17) with rfl | rfl | rfl | rfl | rfl | rfl | rfl | rfl | rfl | rfl | rfl | rfl | rfl | rfl | rfl | rfl | rfl | rfl
    · unfold vld at hv' ⊢; simpa only [c1] using hv'
    · unfold vld at hv' ⊢; simpa only [c1] using hv'
    · unfold vld at hv' ⊢; simpa only [c1] using hv'
    · unfold vld at hv' ⊢; simpa only [c1] using hv'
    · unfold vld at hv' ⊢; simpa only [c1] using hv'
    · unfold vld at hv' ⊢; simpa only [c1] using hv'
    · unfold vld at hv' ⊢; simpa only [c1] using hv'
    · unfold vld at hv' ⊢; simpa only [c1] using hv'
    · unfold vld at hv' ⊢; simpa only [c1, c2 21 _ (Or.inl (by decide : (21 : Nat) ∉ ([42] : List Nat)))] using hv'
    · unfold vld at hv' ⊢; simpa only [c1] using hv'
    · unfold vld at hv' ⊢; simpa only [c1, c2 12 _ (Or.inl (by decide : (12 : Nat) ∉ ([42] : List Nat)))] using hv'
    · unfold vld at hv' ⊢; simpa only [c1] using hv'
    · unfold vld at hv' ⊢; simpa only [c1] using hv'
    · unfold vld at hv' ⊢; simpa only [c1] using hv'
    · unfold vld at hv' ⊢; simpa only [c1] using hv'
    · unfold vld at hv' ⊢; simpa only [c1] using hv'
    · unfold vld at hv' ⊢; simpa only [c1] using hv'
    · unfold vld at hv' ⊢; simpa only [c1, c2 54 _ (Or.inl (by decide : (54 : Nat) ∉ ([42] : List Nat)))] using hv'
  have hcc : ∀ k' i', vld A M k' i' → ¬ (k' = 9 ∧ i' = j) → cc G A M' k' i' = cc G A M k' i' := by
    intro k' i' hv' hne
    have hk := vld_lt hv'
    clear hv'
    rcases (by omega : k' = 0 ∨ k' = 1 ∨ k' = 2 ∨ k' = 3 ∨ k' = 4 ∨ k' = 5 ∨ k' = 6 ∨ k' = 7 ∨ k' = 8 ∨ k' = 9 ∨ k' = 10 ∨ k' = 11 ∨ k' = 12 ∨ k' = 13 ∨ k' = 14 ∨ k' = 15 ∨ k' = 16 ∨ k' = 17) with rfl | rfl | rfl | rfl | rfl | rfl | rfl | rfl | rfl | rfl | rfl | rfl | rfl | rfl | rfl | rfl | rfl | rfl
    · show cBd G A M' = cBd G A M; simp only [cBd, c1]
    · show cLs G A M' i' = cLs G A M i'; simp only [cLs, c1, hlen]
    · show cDt G A M' i' = cDt G A M i'; simp only [cDt, c1, hlen]
    · show cKp G A M' i' = cKp G A M i'; simp only [cKp, c1, c2 3 i' (Or.inl (by decide)), c2 4 i' (Or.inl (by decide)), c2 5 i' (Or.inl (by decide))]
    · show cWk G A M' i' = cWk G A M i'; simp only [cWk, c1, c2 7 i' (Or.inl (by decide)), c2 8 i' (Or.inl (by decide)), c2 9 i' (Or.inl (by decide)), c2 10 i' (Or.inl (by decide))]
    · show cMr G A M' i' = cMr G A M i'; simp only [cMr, c1]
    · show cMm G A M' i' = cMm G A M i'; simp only [cMm, c1, c2 29 i' (Or.inl (by decide)), c2 30 i' (Or.inl (by decide)), c2 31 i' (Or.inl (by decide)), c2 32 i' (Or.inl (by decide)), c3 33 i' (Or.inl (by decide)), c3 34 i' (Or.inl (by decide))]
    · show cTh G A M' i' = cTh G A M i'; simp only [cTh, tEx, lng, c1, c2 12 i' (Or.inl (by decide)), c2 13 i' (Or.inl (by decide)), c2 14 i' (Or.inl (by decide)), c2 15 i' (Or.inl (by decide)), c2 16 i' (Or.inl (by decide)), c2 20 i' (Or.inl (by decide)), c3 18 i' (Or.inl (by decide))]
    · show cGr G A M' i' = cGr G A M i'; simp only [cGr, c1, c2 22 i' (Or.inl (by decide)), c2 23 i' (Or.inl (by decide)), c2 24 i' (Or.inl (by decide)), c3 25 i' (Or.inl (by decide)), c3 26 i' (Or.inl (by decide))]
    · show cLt G A M' i' = cLt G A M i'; simp only [cLt, c1, c2 36 i' (Or.inl (by decide)), c2 37 i' (Or.inl (by decide)), c2 38 i' (Or.inl (by decide)), c2 39 i' (Or.inl (by decide)), c2 40 i' (Or.inl (by decide)), c2 41 i' (Or.inl (by decide)), c2 42 i' (Or.inr (fun e => hne ⟨rfl, e⟩)), c2 43 i' (Or.inl (by decide)), c3 44 i' (Or.inl (by decide)), c3 45 i' (Or.inl (by decide))]
    · show cQu G A M' i' = cQu G A M i'; simp only [cQu, c1, show ∀ q, M'.2.1 17 q = M.2.1 17 q from fun q => c2 17 q (Or.inl (by decide))]
    · show cGo G A M' = cGo G A M; simp only [cGo, c1]
    · show cGs G A M' i' = cGs G A M i'; simp only [cGs, c1, show ∀ q, M'.2.2 47 q = M.2.2 47 q from fun q => c3 47 q (Or.inl (by decide))]
    · show cWo G A M' = cWo G A M; simp only [cWo, c1]
    · show cWs G A M' i' = cWs G A M i'; simp only [cWs, c1, show ∀ q, M'.2.2 48 q = M.2.2 48 q from fun q => c3 48 q (Or.inl (by decide))]
    · show cTo G A M' = cTo G A M; simp only [cTo, c1]
    · show cTr G A M' i' = cTr G A M i'; simp only [cTr, c1, c2 54 i' (Or.inl (by decide)), c2 55 i' (Or.inl (by decide))]
    · show cRw G A M' i' = cRw G A M i'; simp only [cRw, c1, c2 54 i' (Or.inl (by decide)), c2 56 i' (Or.inl (by decide)), show ∀ q, M'.2.2 57 q = M.2.2 57 q from fun q => c3 57 q (Or.inl (by decide))]
  exact hR.upd hv rfl rfl hvv hcell hfr hcc (by rw [c1]) hlen (fun t ht hn => by rw [c2 20 t (Or.inl (by decide))] at hn; rw [c1] at ht; rw [c3 19 t (Or.inl (by decide))]; exact hR.2.2.2.2.2 t ht hn)
end RHS
