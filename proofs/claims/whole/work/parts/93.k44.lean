/-! ===== every method of the class, under the invariant ===== -/
/-- the board at a stands for M -/
def KI (G : WG) (hp : Hp) (a : Nat) (M : MS) (h : Hp) : Prop := Inv M ∧ ∃ A, RH G hp A M h ∧ A.1 0 0 = a
theorem looks_gr {M : MS} {t : Nat} (h : Inv M) (ht : t < nx (M.1 11)) : (∀ i, i < nx ((looksM M t).2.1 21 t) → ∃ w, w < nx (M.1 6) ∧ (looksM M t).2.1 22 (20 * t + i) = nI w) ∧ ∀ p q, p < nx ((looksM M t).2.1 21 t) → q < nx ((looksM M t).2.1 21 t) → (looksM M t).2.1 22 (20 * t + p) = (looksM M t).2.1 22 (20 * t + q) → p = q := by
  unfold looksM
  simp only []
  generalize kClk M (nx (M.1 27)) = c
  have h1 := inv_lkM c h ht
  have s1 := (lkM_same t c (nx (M.2.1 21 t)) 0 M).1
  generalize lkM M t c 0 (nx (M.2.1 21 t)) = A at h1 s1
  have h2 := inv_lkR h1 (by rw [s1]; exact ht)
  have s2 := lkR_1 A t
  generalize lkR A t = B at h2 s2
  have h3 := inv_lkQ c h2 (by rw [s2, s1]; exact ht)
  have s3 := lkQ_1 B t c
  generalize lkQ B t c = C at h3 s3
  have g := (h3.2.1 t (by rw [s3, s2, s1]; exact ht)).2.2
  have e21 := (lkC_21 C t c).1
  have e22 : (lkC C t c).2.1 22 = C.2.1 22 := by
    unfold lkC
    split
    · rfl
    · split
      · split
        · rw [snd_k _ _ _ _ _ _ (by omega)]; rfl
        · rfl
      · rfl
  rw [e21, e22]
  have w := g.1
  rw [s3, s2, s1] at w
  exact ⟨w, g.2.1⟩
theorem Inv.hLt {M : MS} (h : Inv M) : ∀ j, j < nx (M.1 35) → ∃ w t b : Nat, w < nx (M.1 6) ∧ t < nx (M.1 11) ∧ b < nx (M.1 2) ∧ M.2.1 37 j = nI w ∧ M.2.1 39 j = nI t ∧ M.2.1 38 j = nI b ∧ (M.2.1 36 j < 4 → ¬ M.2.1 36 j = 0 → ¬ M.2.1 36 j = 1 → ¬ M.2.1 36 j = 2 → M.2.1 12 t = 3) ∧ (M.2.1 36 j = 4 ∨ M.2.1 36 j = 5 → ¬ M.2.1 43 j = 0) ∧ (M.2.1 29 (20 * w + t) = 0 ∨ M.2.1 29 (20 * w + t) = 1) := fun j hj => by
  have hb := h.1.1
  unfold bnd at hb
  obtain ⟨w, t, b, a1, a2, a3, a4, a5, a6, a7, a8, _⟩ := h.2.2.2.2.2.1 j hj
  exact ⟨w, t, b, a1, a2, a3, a4, a5, a6, a7, a8, (h.2.2.2.1 w t (by omega) (by omega)).2.2⟩
theorem Inv.hG {M : MS} (h : Inv M) : ∀ j t, j < nx (M.1 35) → t < nx (M.1 11) → M.2.1 39 j = nI t → (gof (looksM (sI M 42 j 1) t) t ((looksM (sI M 42 j 1) t).2.1 37 j) (nx ((looksM (sI M 42 j 1) t).2.1 21 t)) = none → nx ((looksM (sI M 42 j 1) t).2.1 21 t) < 20) ∧ ∀ p q, p < nx ((looksM (sI M 42 j 1) t).2.1 21 t) → q < nx ((looksM (sI M 42 j 1) t).2.1 21 t) → (looksM (sI M 42 j 1) t).2.1 22 (20 * t + p) = (looksM (sI M 42 j 1) t).2.1 22 (20 * t + q) → p = q := fun j t hj ht _ => by
  have hb := h.1.1
  unfold bnd at hb
  have hB : Inv (sI M 42 j 1) := h.same (sV_sI (by decide))
  obtain ⟨g1, g2⟩ := looks_gr (M := sI M 42 j 1) (t := t) hB ht
  obtain ⟨w, t', b, a1, a2, a3, a4, _⟩ := h.2.2.2.2.2.1 j hj
  obtain ⟨o1, o2, o3, o4, o5⟩ := looks_ok (sI M 42 j 1) t
  have hjn : j ≠ nx ((sI M 42 j 1).1 35) := by
    show j ≠ nx (M.1 35)
    omega
  have e37 : (looksM (sI M 42 j 1) t).2.1 37 j = nI w := by rw [o4 37 j (by decide) hjn, sI_k M j 1 (show 37 ≠ 42 by decide)]; exact a4
  refine ⟨fun z => ?_, g2⟩
  rw [e37] at z
  exact gr_room hb.2.1 g1 g2 a1 z
section K44
variable (l : Launch) (G : WG) {hp h : Hp} {a : Nat} {M : MS}
theorem KI_w {μ : MI} {av : List Value} {v : Value} {M' : MS} (hI : Inv M') {A : AD} (hA : A.1 0 0 = a) (hk : KS l G hp A μ av M h v M') : SpV l G μ (.ref a :: av) h (fun r9 h' => r9 = v ∧ KI G hp a M' h') := by
  subst hA
  refine Sp.mono hk ?_
  rintro w h' ⟨r, e, e2, A', hR, hx⟩
  exact ⟨r, e, e2, hI, A', hR, hx 0 0 (by decide) (by decide) rfl⟩
theorem KI_r {μ : MI} {av : List Value} {v : Value} (hK : KI G hp a M h) (hk : SpP l G μ (.ref a :: av) h v) : SpV l G μ (.ref a :: av) h (fun r9 h' => r9 = v ∧ KI G hp a M h') := by
  refine Sp.mono hk ?_
  rintro w h' ⟨e, rfl⟩
  exact ⟨v, e, rfl, hK⟩
theorem K_store  (hK : KI G hp a M h) : SpV l G mX11_store [.ref a] h (fun r9 h' => r9 = .int (f_store M ).1 ∧ KI G hp a (f_store M ).2 h') := by
  obtain ⟨hI, A, hR, hA⟩ := hK
  exact KI_w l G (hI.store ) hA (k_store l G  hR hI.1.2.1.2.2.2.2 hI.1.1.2.2.2.2)
theorem K_tick (n : Int32) (hK : KI G hp a M h) : SpV l G mX11_tick [.ref a, .int n] h (fun r9 h' => r9 = .int (f_tick M n).1 ∧ KI G hp a (f_tick M n).2 h') := by
  obtain ⟨hI, A, hR, hA⟩ := hK
  exact KI_w l G (hI.tick n) hA (k_tick l G n hR )
theorem K_lose (v : Int32) (hK : KI G hp a M h) : SpV l G mX11_lose [.ref a, .int v] h (fun r9 h' => r9 = .int (f_lose M v).1 ∧ KI G hp a (f_lose M v).2 h') := by
  obtain ⟨hI, A, hR, hA⟩ := hK
  exact KI_w l G (hI.lose v) hA (k_lose l G v hR hI.1.1)
theorem K_fall (v : Int32) (hK : KI G hp a M h) : SpV l G mX11_fall [.ref a, .int v] h (fun r9 h' => r9 = .int (f_fall M v).1 ∧ KI G hp a (f_fall M v).2 h') := by
  obtain ⟨hI, A, hR, hA⟩ := hK
  exact KI_w l G (hI.fall v) hA (k_fall l G v hR hI.1.1 (fun w hw t h1 h2 => (hI.2.2.2.1 w t (by have := hI.1.1.2.1; omega) h2).1 (Or.inr h1)))
theorem K_lead (v : Int32) (hK : KI G hp a M h) : SpV l G mX11_lead [.ref a, .int v] h (fun r9 h' => r9 = .int (f_lead M v).1 ∧ KI G hp a (f_lead M v).2 h') := by
  obtain ⟨hI, A, hR, hA⟩ := hK
  exact KI_w l G (hI.lead v) hA (k_lead l G v hR hI.1.1 hI.1.2.1.1 hI.tidy (fun t ht => (hI.2.1 t ht).1) (fun t ht => (hI.2.1 t ht).2.1))
theorem K_keeper (b : Int32) (r : Int32) (hK : KI G hp a M h) : SpV l G mX11_keeper [.ref a, .int b, .int r] h (fun r9 h' => r9 = .int (f_keeper M b r).1 ∧ KI G hp a (f_keeper M b r).2 h') := by
  obtain ⟨hI, A, hR, hA⟩ := hK
  exact KI_w l G (hI.keeper b r) hA (k_keeper l G b r hR hI.1.1 hI.1.2.1.1 hI.tidy)
theorem K_worker (b : Int32) (r : Int32) (hK : KI G hp a M h) : SpV l G mX11_worker [.ref a, .int b, .int r] h (fun r9 h' => r9 = .int (f_worker M b r).1 ∧ KI G hp a (f_worker M b r).2 h') := by
  obtain ⟨hI, A, hR, hA⟩ := hK
  exact KI_w l G (hI.worker b r) hA (k_worker l G b r hR hI.1.1 hI.1.2.1.2.1 hI.tidy (fun q => (hI.2.2.2.2.1 _ q).2 (Nat.le_refl _)) (fun q t ht => (by have z := hI.2.2.2.1 _ t q ht; have z1 := z.1 (Or.inl (Nat.le_refl _)); have z2 := z.2.1 (Nat.le_refl _); exact ⟨z1.2, z1.1, z2.1, z2.2.1, z2.2.2.1, z2.2.2.2⟩)))
theorem K_thing (k : Int32) (ln : Int32) (w : Int32) (hK : KI G hp a M h) : SpV l G mX11_thing [.ref a, .int k, .int ln, .int w] h (fun r9 h' => r9 = .int (f_thing M k ln w).1 ∧ KI G hp a (f_thing M k ln w).2 h') := by
  obtain ⟨hI, A, hR, hA⟩ := hK
  exact KI_w l G (hI.thing k ln w) hA (k_thing l G k ln w hR hI.1.1 hI.1.2.1.2.2.1 hI.tidy hI.d0.1 (fun q => hI.2.2.1 _ (Nat.le_refl _) q))
theorem K_renew (w : Int32) (k : Int32) (t : Int32) (hK : KI G hp a M h) : SpV l G mX11_renew [.ref a, .int w, .int k, .int t] h (fun r9 h' => r9 = .int (f_renew M w k t).1 ∧ KI G hp a (f_renew M w k t).2 h') := by
  obtain ⟨hI, A, hR, hA⟩ := hK
  exact KI_w l G (hI.renew w k t) hA (k_renew l G w k t hR hI.1.1 hI.tidy hI.1.2.1.2.2.2.1)
theorem K_end (w : Int32) (k : Int32) (t : Int32) (hK : KI G hp a M h) : SpV l G mX11_end [.ref a, .int w, .int k, .int t] h (fun r9 h' => r9 = .int (f_end M w k t).1 ∧ KI G hp a (f_end M w k t).2 h') := by
  obtain ⟨hI, A, hR, hA⟩ := hK
  exact KI_w l G (hI.ends w k t) hA (k_end l G w k t hR hI.1.1 hI.tidy hI.1.2.1.2.2.2.1)
theorem K_rise (w : Int32) (k : Int32) (t : Int32) (hK : KI G hp a M h) : SpV l G mX11_rise [.ref a, .int w, .int k, .int t] h (fun r9 h' => r9 = .int (f_rise M w k t).1 ∧ KI G hp a (f_rise M w k t).2 h') := by
  obtain ⟨hI, A, hR, hA⟩ := hK
  exact KI_w l G (hI.rise w k t) hA (k_rise l G w k t hR hI.1.1 hI.tidy hI.1.2.1.2.2.2.1)
theorem K_ask (w : Int32) (k : Int32) (t : Int32) (mode : Int32) (parts : Int32) (hK : KI G hp a M h) : SpV l G mX11_ask [.ref a, .int w, .int k, .int t, .int mode, .int parts] h (fun r9 h' => r9 = .int (f_ask M w k t mode parts).1 ∧ KI G hp a (f_ask M w k t mode parts).2 h') := by
  obtain ⟨hI, A, hR, hA⟩ := hK
  exact KI_w l G (hI.ask w k t mode parts) hA (k_ask l G w k t mode parts hR hI.1.1 hI.tidy hI.1.2.1.2.2.2.1)
theorem K_twice (v : Int32) (hK : KI G hp a M h) : SpV l G mX11_twice [.ref a, .int v] h (fun r9 h' => r9 = .int (f_twice M v).1 ∧ KI G hp a (f_twice M v).2 h') := by
  obtain ⟨hI, A, hR, hA⟩ := hK
  exact KI_w l G (hI.twice v) hA (k_twice l G v hR hI.1.1 hI.tidy hI.1.2.1.2.2.2.1)
theorem K_look (v : Int32) (hK : KI G hp a M h) : SpV l G mX11_look [.ref a, .int v] h (fun r9 h' => r9 = .int (f_look M v).1 ∧ KI G hp a (f_look M v).2 h') := by
  obtain ⟨hI, A, hR, hA⟩ := hK
  exact KI_w l G (hI.look v) hA (k_look l G v hR hI.1.1 hI.1.2.1.1 hI.tidy hI.1.2.1.2.2.2.1 (fun t ht => (hI.2.1 t ht).1) (hI.2.2.2.2.2.2.1.imp id (fun ⟨k, p, q, _⟩ => ⟨k, p, q⟩)))
theorem K_deliver (v : Int32) (hK : KI G hp a M h) : SpV l G mX11_deliver [.ref a, .int v] h (fun r9 h' => r9 = .int (f_deliver M v).1 ∧ KI G hp a (f_deliver M v).2 h') := by
  obtain ⟨hI, A, hR, hA⟩ := hK
  exact KI_w l G (hI.deliver v) hA (k_deliver l G v hR hI.1.1 hI.1.2.1.1 hI.tidy hI.1.2.1.2.2.2.1 (fun t ht => (hI.2.1 t ht).1) hI.2.2.2.2.2.2.1 hI.hLt hI.hG)
theorem K_forge (tr : Int32) (what : Int32) (n : Int32) (hK : KI G hp a M h) : SpV l G mX11_forge [.ref a, .int tr, .int what, .int n] h (fun r9 h' => r9 = .int (f_forge M tr what n).1 ∧ KI G hp a (f_forge M tr what n).2 h') := by
  obtain ⟨hI, A, hR, hA⟩ := hK
  exact KI_w l G (hI.forge tr what n) hA (k_forge l G tr what n hR hI.1.1 (fun y hy => (by obtain ⟨p1, p2, p3, p4, p5, p6⟩ := hI.2.2.2.2.2.2.2 y hy; exact ⟨p1, fun q => (p2 q).1, fun q => (p3 q).1, p4, p5, p6⟩)))
theorem K_write (w v st : Int32) (y : Int64) (hK : KI G hp a M h) : SpV l G mX11_write [.ref a, .int w, .int v, .int st, .long y] h (fun r9 h' => r9 = .int (f_write M w v st y).1 ∧ KI G hp a (f_write M w v st y).2 h') := by
  obtain ⟨hI, A, hR, hA⟩ := hK
  exact KI_w l G (hI.write w v st y) hA (k_write l G w v st y hR hI.1.1 hI.1.2.1.2.2.2.2)
theorem K_wake (what who is : Int32) (his : is = 0 ∨ is = 1) (hK : KI G hp a M h) : SpV l G mX11_wake [.ref a, .int what, .int who, .int is] h (fun r9 h' => r9 = .int (f_wake M what who is).1 ∧ KI G hp a (f_wake M what who is).2 h') := by
  obtain ⟨hI, A, hR, hA⟩ := hK
  exact KI_w l G (hI.wake what who is) hA (k_wake l G what who is hR hI.1.1 his)
theorem K_put (tr what n : Int32) (hK : KI G hp a M h) : SpV l G mX11_put [.ref a, .int tr, .int what, .int n] h (fun r9 h' => r9 = .int (f_put M tr what n).1 ∧ KI G hp a (f_put M tr what n).2 h') := by
  obtain ⟨hI, A, hR, hA⟩ := hK
  subst hA
  refine Sp.mono (k_put l G tr what n hR hI.1.1 hI.tidy (fun i hi => (hI.2.2.2.2.2.2.2 i hi).2.2.2.2.1)) ?_
  rintro w h' ⟨r, e, e2, A', hR2, hx⟩
  exact ⟨r, e, e2, hI.put tr what n, A', hR2, hx⟩
theorem K_status (hK : KI G hp a M h) : SpV l G mX11_status [.ref a] h (fun r9 h' => r9 = .int (M.1 58) ∧ KI G hp a M h') := by
  refine KI_r l G hK ?_
  obtain ⟨hI, A, hR, hA⟩ := hK
  subst hA
  exact k_status l G  hR 
theorem K_clock (what who : Int32) (hK : KI G hp a M h) : SpV l G mX11_clock [.ref a, .int what, .int who] h (fun r9 h' => r9 = .long (f_clock M what who) ∧ KI G hp a M h') := by
  refine KI_r l G hK ?_
  obtain ⟨hI, A, hR, hA⟩ := hK
  subst hA
  exact k_clock l G what who hR hI.1.1
theorem K_letter (v what : Int32) (hK : KI G hp a M h) : SpV l G mX11_letter [.ref a, .int v, .int what] h (fun r9 h' => r9 = .int (f_letter M v what) ∧ KI G hp a M h') := by
  refine KI_r l G hK ?_
  obtain ⟨hI, A, hR, hA⟩ := hK
  subst hA
  exact k_letter l G v what hR hI.1.1
theorem K_wrote (v what : Int32) (hK : KI G hp a M h) : SpV l G mX11_wrote [.ref a, .int v, .int what] h (fun r9 h' => r9 = .long (f_wrote M v what) ∧ KI G hp a M h') := by
  refine KI_r l G hK ?_
  obtain ⟨hI, A, hR, hA⟩ := hK
  subst hA
  exact k_wrote l G v what hR hI.1.1
theorem K_grant (v i what : Int32) (hK : KI G hp a M h) : SpV l G mX11_grant [.ref a, .int v, .int i, .int what] h (fun r9 h' => r9 = .int (f_grant M v i what) ∧ KI G hp a M h') := by
  refine KI_r l G hK ?_
  obtain ⟨hI, A, hR, hA⟩ := hK
  subst hA
  exact k_grant l G v i what hR hI.1.1 hI.tidy
theorem K_ends (v i what : Int32) (hK : KI G hp a M h) : SpV l G mX11_ends [.ref a, .int v, .int i, .int what] h (fun r9 h' => r9 = .long (f_ends M v i what) ∧ KI G hp a M h') := by
  refine KI_r l G hK ?_
  obtain ⟨hI, A, hR, hA⟩ := hK
  subst hA
  exact k_ends l G v i what hR hI.1.1 hI.tidy
theorem K_held (w v what : Int32) (hK : KI G hp a M h) : SpV l G mX11_held [.ref a, .int w, .int v, .int what] h (fun r9 h' => r9 = .long (f_held M w v what) ∧ KI G hp a M h') := by
  refine KI_r l G hK ?_
  obtain ⟨hI, A, hR, hA⟩ := hK
  subst hA
  exact k_held l G w v what hR hI.1.1
theorem K_holds (w v what : Int32) (hK : KI G hp a M h) : SpV l G mX11_holds [.ref a, .int w, .int v, .int what] h (fun r9 h' => r9 = .int (f_holds M w v what) ∧ KI G hp a M h') := by
  refine KI_r l G hK ?_
  obtain ⟨hI, A, hR, hA⟩ := hK
  subst hA
  exact k_holds l G w v what hR hI.1.1
theorem K_stored (s v what : Int32) (hK : KI G hp a M h) : SpV l G mX11_stored [.ref a, .int s, .int v, .int what] h (fun r9 h' => r9 = .long (f_stored M s v what) ∧ KI G hp a M h') := by
  refine KI_r l G hK ?_
  obtain ⟨hI, A, hR, hA⟩ := hK
  subst hA
  exact k_stored l G s v what hR hI.1.1 hI.1.2.1.2.2.2.2
theorem K_told (v what : Int32) (hK : KI G hp a M h) : SpV l G mX11_told [.ref a, .int v, .int what] h (fun r9 h' => r9 = .int (f_told M v what) ∧ KI G hp a M h') := by
  refine KI_r l G hK ?_
  obtain ⟨hI, A, hR, hA⟩ := hK
  subst hA
  exact k_told l G v what hR hI.1.1 (fun t ht => (hI.2.1 t ht).1)
theorem K_count (what : Int32) (hK : KI G hp a M h) : SpV l G mX11_count [.ref a, .int what] h (fun r9 h' => r9 = .int (f_count M what) ∧ KI G hp a M h') := by
  refine KI_r l G hK ?_
  obtain ⟨hI, A, hR, hA⟩ := hK
  subst hA
  exact k_count l G what hR hI.1.1 hI.1.2.1
end K44
