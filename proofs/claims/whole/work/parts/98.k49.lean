/-! ===== the class's cells at its start, and class and reference side by side ===== -/
def bn (k i : Nat) : Nat := if k = 1 then i else if k = 11 then 4 else if k = 12 then 5 + i else if k = 13 then 11 else if k = 14 then 12 + i else if k = 15 then 18 else 19 + i
def bV (k i : Nat) : Prop := (k = 0 ∧ i = 0) ∨ (k = 1 ∧ i < 4) ∨ (k = 11 ∧ i = 0) ∨ (k = 12 ∧ i < 6) ∨ (k = 13 ∧ i = 0) ∨ (k = 14 ∧ i < 6) ∨ (k = 15 ∧ i = 0) ∨ (k = 16 ∧ i < 6)
theorem bn_lt {k i : Nat} (h : bV k i) (hk : k ≠ 0) : bn k i < 25 := by
  unfold bn
  rcases h with h | h | h | h | h | h | h | h
  · exact absurd h.1 hk
  · obtain ⟨rfl, h⟩ := h; show i < 25; omega
  · obtain ⟨rfl, h⟩ := h; show 4 < 25; omega
  · obtain ⟨rfl, h⟩ := h; show 5 + i < 25; omega
  · obtain ⟨rfl, h⟩ := h; show 11 < 25; omega
  · obtain ⟨rfl, h⟩ := h; show 12 + i < 25; omega
  · obtain ⟨rfl, h⟩ := h; show 18 < 25; omega
  · obtain ⟨rfl, h⟩ := h; show 19 + i < 25; omega
theorem bn_inj {k i k' j : Nat} (h : bV k i) (h' : bV k' j) (hk : k ≠ 0) (hk' : k' ≠ 0) (e : bn k i = bn k' j) : k = k' ∧ i = j := by
  rcases h with h | h | h | h | h | h | h | h
  · exact absurd h.1 hk
  · obtain ⟨rfl, h⟩ := h
    rcases h' with h' | h' | h' | h' | h' | h' | h' | h'
    · exact absurd h'.1 hk'
    · obtain ⟨rfl, h'⟩ := h'; have e : i = j := e; exact ⟨rfl, by omega⟩
    · obtain ⟨rfl, h'⟩ := h'; have e : i = 4 := e; omega
    · obtain ⟨rfl, h'⟩ := h'; have e : i = 5 + j := e; omega
    · obtain ⟨rfl, h'⟩ := h'; have e : i = 11 := e; omega
    · obtain ⟨rfl, h'⟩ := h'; have e : i = 12 + j := e; omega
    · obtain ⟨rfl, h'⟩ := h'; have e : i = 18 := e; omega
    · obtain ⟨rfl, h'⟩ := h'; have e : i = 19 + j := e; omega
  · obtain ⟨rfl, h⟩ := h
    rcases h' with h' | h' | h' | h' | h' | h' | h' | h'
    · exact absurd h'.1 hk'
    · obtain ⟨rfl, h'⟩ := h'; have e : 4 = j := e; omega
    · obtain ⟨rfl, h'⟩ := h'; have e : 4 = 4 := e; exact ⟨rfl, by omega⟩
    · obtain ⟨rfl, h'⟩ := h'; have e : 4 = 5 + j := e; omega
    · obtain ⟨rfl, h'⟩ := h'; have e : 4 = 11 := e; omega
    · obtain ⟨rfl, h'⟩ := h'; have e : 4 = 12 + j := e; omega
    · obtain ⟨rfl, h'⟩ := h'; have e : 4 = 18 := e; omega
    · obtain ⟨rfl, h'⟩ := h'; have e : 4 = 19 + j := e; omega
  · obtain ⟨rfl, h⟩ := h
    rcases h' with h' | h' | h' | h' | h' | h' | h' | h'
    · exact absurd h'.1 hk'
    · obtain ⟨rfl, h'⟩ := h'; have e : 5 + i = j := e; omega
    · obtain ⟨rfl, h'⟩ := h'; have e : 5 + i = 4 := e; omega
    · obtain ⟨rfl, h'⟩ := h'; have e : 5 + i = 5 + j := e; exact ⟨rfl, by omega⟩
    · obtain ⟨rfl, h'⟩ := h'; have e : 5 + i = 11 := e; omega
    · obtain ⟨rfl, h'⟩ := h'; have e : 5 + i = 12 + j := e; omega
    · obtain ⟨rfl, h'⟩ := h'; have e : 5 + i = 18 := e; omega
    · obtain ⟨rfl, h'⟩ := h'; have e : 5 + i = 19 + j := e; omega
  · obtain ⟨rfl, h⟩ := h
    rcases h' with h' | h' | h' | h' | h' | h' | h' | h'
    · exact absurd h'.1 hk'
    · obtain ⟨rfl, h'⟩ := h'; have e : 11 = j := e; omega
    · obtain ⟨rfl, h'⟩ := h'; have e : 11 = 4 := e; omega
    · obtain ⟨rfl, h'⟩ := h'; have e : 11 = 5 + j := e; omega
    · obtain ⟨rfl, h'⟩ := h'; have e : 11 = 11 := e; exact ⟨rfl, by omega⟩
    · obtain ⟨rfl, h'⟩ := h'; have e : 11 = 12 + j := e; omega
    · obtain ⟨rfl, h'⟩ := h'; have e : 11 = 18 := e; omega
    · obtain ⟨rfl, h'⟩ := h'; have e : 11 = 19 + j := e; omega
  · obtain ⟨rfl, h⟩ := h
    rcases h' with h' | h' | h' | h' | h' | h' | h' | h'
    · exact absurd h'.1 hk'
    · obtain ⟨rfl, h'⟩ := h'; have e : 12 + i = j := e; omega
    · obtain ⟨rfl, h'⟩ := h'; have e : 12 + i = 4 := e; omega
    · obtain ⟨rfl, h'⟩ := h'; have e : 12 + i = 5 + j := e; omega
    · obtain ⟨rfl, h'⟩ := h'; have e : 12 + i = 11 := e; omega
    · obtain ⟨rfl, h'⟩ := h'; have e : 12 + i = 12 + j := e; exact ⟨rfl, by omega⟩
    · obtain ⟨rfl, h'⟩ := h'; have e : 12 + i = 18 := e; omega
    · obtain ⟨rfl, h'⟩ := h'; have e : 12 + i = 19 + j := e; omega
  · obtain ⟨rfl, h⟩ := h
    rcases h' with h' | h' | h' | h' | h' | h' | h' | h'
    · exact absurd h'.1 hk'
    · obtain ⟨rfl, h'⟩ := h'; have e : 18 = j := e; omega
    · obtain ⟨rfl, h'⟩ := h'; have e : 18 = 4 := e; omega
    · obtain ⟨rfl, h'⟩ := h'; have e : 18 = 5 + j := e; omega
    · obtain ⟨rfl, h'⟩ := h'; have e : 18 = 11 := e; omega
    · obtain ⟨rfl, h'⟩ := h'; have e : 18 = 12 + j := e; omega
    · obtain ⟨rfl, h'⟩ := h'; have e : 18 = 18 := e; exact ⟨rfl, by omega⟩
    · obtain ⟨rfl, h'⟩ := h'; have e : 18 = 19 + j := e; omega
  · obtain ⟨rfl, h⟩ := h
    rcases h' with h' | h' | h' | h' | h' | h' | h' | h'
    · exact absurd h'.1 hk'
    · obtain ⟨rfl, h'⟩ := h'; have e : 19 + i = j := e; omega
    · obtain ⟨rfl, h'⟩ := h'; have e : 19 + i = 4 := e; omega
    · obtain ⟨rfl, h'⟩ := h'; have e : 19 + i = 5 + j := e; omega
    · obtain ⟨rfl, h'⟩ := h'; have e : 19 + i = 11 := e; omega
    · obtain ⟨rfl, h'⟩ := h'; have e : 19 + i = 12 + j := e; omega
    · obtain ⟨rfl, h'⟩ := h'; have e : 19 + i = 18 := e; omega
    · obtain ⟨rfl, h'⟩ := h'; have e : 19 + i = 19 + j := e; exact ⟨rfl, by omega⟩
def bA (a : Nat) (B : Nat → Nat) : AD := (fun k i => if k = 0 then a else B (bn k i), fun _ => 0, fun _ => 0, fun _ => 0)
theorem bV_of {a : Nat} {B : Nat → Nat} {d : Int32} {k i : Nat} (h : vld (bA a B) (m0 d) k i) : bV k i := by
  have n0 : nx (0 : Int32) = 0 := by decide
  have c : ∀ k, k ≠ 0 → k ≠ 27 → (m0 d).1 k = 0 := fun k h1 h2 => by unfold m0; rw [sS_at, if_neg h1, sS_at, if_neg h2]; rfl
  have c2 := c 2 (by decide) (by decide)
  have c6 := c 6 (by decide) (by decide)
  have c11 := c 11 (by decide) (by decide)
  have c35 := c 35 (by decide) (by decide)
  have e1 : ∀ f j, (m0 d).2.1 f j = 0 := fun _ _ => rfl
  have hk := vld_lt h
  unfold bV
  rcases (by omega : k = 0 ∨ k = 1 ∨ k = 2 ∨ k = 3 ∨ k = 4 ∨ k = 5 ∨ k = 6 ∨ k = 7 ∨ k = 8 ∨ k = 9 ∨ k = 10 ∨ k = 11 ∨ k = 12 ∨ k = 13 ∨ k = 14 ∨ k = 15 ∨ k = 16 ∨ k = 17) with rfl | rfl | rfl | rfl | rfl | rfl | rfl | rfl | rfl | rfl | rfl | rfl | rfl | rfl | rfl | rfl | rfl | rfl <;> unfold vld at h <;> simp only [c2, c6, c11, c35, n0, e1] at h
  · exact Or.inl ⟨rfl, h⟩
  · exact Or.inr (Or.inl ⟨rfl, by omega⟩)
  · exact absurd rfl h.2
  · omega
  · omega
  · omega
  · omega
  · omega
  · omega
  · omega
  · omega
  · exact Or.inr (Or.inr (Or.inl ⟨rfl, h⟩))
  · exact Or.inr (Or.inr (Or.inr (Or.inl ⟨rfl, h⟩)))
  · exact Or.inr (Or.inr (Or.inr (Or.inr (Or.inl ⟨rfl, h⟩))))
  · exact Or.inr (Or.inr (Or.inr (Or.inr (Or.inr (Or.inl ⟨rfl, h⟩)))))
  · exact Or.inr (Or.inr (Or.inr (Or.inr (Or.inr (Or.inr (Or.inl ⟨rfl, h⟩))))))
  · exact Or.inr (Or.inr (Or.inr (Or.inr (Or.inr (Or.inr (Or.inr ⟨rfl, h⟩))))))
  · rcases h.2 with z | z
    · exact absurd z (by decide)
    · exact absurd z (by decide)
section K49
variable {G : WG} {a : Nat} {B : Nat → Nat} {d : Int32} {h h0 hp : Hp}
theorem bA_n {k i : Nat} (hk : k ≠ 0) : (bA a B).1 k i = B (bn k i) := if_neg hk
theorem BI.done (hB : BI G a 25 B [.int (drf d), .ref (B 0), .ref (B 1), .ref (B 2), .ref (B 3), .ref (B 4), .ref (B 11), .ref (B 18), .int 0, .int 0, .int (-1), .int 0, .int 0, .int 0, .int 0, .int 0, .int 0, .int 0] h0 h) (hT : h (B 18) = some (aR 5 6 (lstF 6 (fun j => B (19 + j))))) (hp1 : ∀ q e, hp q = some e → h0 q = some e ∧ q ≠ a) (hg : hp (gE G) = some e_nil) : ∃ A, RH G hp A (m0 (drf d)) h ∧ A.1 0 0 = a := by
  obtain ⟨b1, b2, b3, b4, b5⟩ := hB
  have n0 : nx (0 : Int32) = 0 := by decide
  have c : ∀ k, k ≠ 0 → k ≠ 27 → (m0 (drf d)).1 k = 0 := fun k h1 h2 => by unfold m0; rw [sS_at, if_neg h1, sS_at, if_neg h2]; rfl
  have c2 := c 2 (by decide) (by decide)
  have c6 := c 6 (by decide) (by decide)
  have c11 := c 11 (by decide) (by decide)
  have c35 := c 35 (by decide) (by decide)
  have hlen : ∀ i, len (m0 (drf d)) i = 0 := fun i => by
    match i with
    | 0 => show nx ((m0 (drf d)).1 2) = 0; rw [c2, n0]
    | 1 => show nx ((m0 (drf d)).1 6) = 0; rw [c6, n0]
    | 2 => show nx ((m0 (drf d)).1 11) = 0; rw [c11, n0]
    | 3 => show nx ((m0 (drf d)).1 35) = 0; rw [c35, n0]
    | t + 4 => show nx (0 : Int32) = 0; exact n0
  refine ⟨bA a B, ⟨fun k i hv => ?_, fun k i k' i' hv hv' e => ?_, fun q e hq => ?_, hg, fun i _ => ?_, fun t ht => ?_⟩, rfl⟩
  · rcases bV_of hv with z | z | z | z | z | z | z | z
    · obtain ⟨rfl, rfl⟩ := z
      show h a = some (cBd G (bA a B) (m0 (drf d)))
      rw [b1]; rfl
    · obtain ⟨rfl, z⟩ := z
      show h (B i) = some (cLs G (bA a B) (m0 (drf d)) i)
      rw [b2 i (by omega) (by omega), bS_lo z]
      unfold cLs
      rw [hlen]; rfl
    · obtain ⟨rfl, rfl⟩ := z
      show h (B 4) = some (cGo G (bA a B) (m0 (drf d)))
      rw [b2 4 (by omega) (by omega), bS_4]; rfl
    · obtain ⟨rfl, z⟩ := z
      show h (B (5 + i)) = some (cGs G (bA a B) (m0 (drf d)) i)
      rw [b2 (5 + i) (by omega) (by omega), bS_5 (by omega) (by omega) (by omega)]
      refine congrArg (fun z => some (aJ 20 z)) (funext fun t => ?_)
      by_cases ht : t < 20
      · rw [if_pos ht]; rfl
      · rw [if_neg ht]
    · obtain ⟨rfl, rfl⟩ := z
      show h (B 11) = some (cWo G (bA a B) (m0 (drf d)))
      rw [b2 11 (by omega) (by omega), bS_11]; rfl
    · obtain ⟨rfl, z⟩ := z
      show h (B (12 + i)) = some (cWs G (bA a B) (m0 (drf d)) i)
      rw [b2 (12 + i) (by omega) (by omega), bS_5 (by omega) (by omega) (by omega)]
      refine congrArg (fun z => some (aJ 20 z)) (funext fun t => ?_)
      by_cases ht : t < 20
      · rw [if_pos ht]; rfl
      · rw [if_neg ht]
    · obtain ⟨rfl, rfl⟩ := z
      show h (B 18) = some (cTo G (bA a B) (m0 (drf d)))
      rw [hT]; rfl
    · obtain ⟨rfl, z⟩ := z
      show h (B (19 + i)) = some (cTr G (bA a B) (m0 (drf d)) i)
      rw [b2 (19 + i) (by omega) (by omega), bS_hi (by omega)]; rfl
  · have v := bV_of hv
    have v' := bV_of hv'
    by_cases hk : k = 0
    · by_cases hk' : k' = 0
      · subst hk; subst hk'
        have i0 : i = 0 := hv
        have i0' : i' = 0 := hv'
        exact ⟨rfl, by omega⟩
      · rw [bA_n hk', hk] at e
        exact absurd (show B (bn k' i') = a from e.symm) (b3 _ (bn_lt v' hk')).1
    · by_cases hk' : k' = 0
      · rw [bA_n hk, hk'] at e
        exact absurd (show B (bn k i) = a from e) (b3 _ (bn_lt v hk)).1
      · rw [bA_n hk, bA_n hk'] at e
        exact bn_inj v v' hk hk' (b4 _ _ (bn_lt v hk) (bn_lt v' hk') e)
  · obtain ⟨p1, p2⟩ := hp1 q e hq
    refine ⟨by rw [b5 q p2 (by rw [p1]; exact fun z => by cases z)]; exact p1, fun k i hv => ?_⟩
    by_cases hk : k = 0
    · subst hk; exact fun z => p2 z.symm
    · rw [bA_n hk]
      intro z
      have := (b3 _ (bn_lt (bV_of hv) hk)).2.1
      rw [z, p1] at this; cases this
  · rw [hlen]; exact ⟨Nat.le_refl _, by show 0 ≤ 600; omega⟩
  · rw [c11, n0] at ht; omega
end K49
