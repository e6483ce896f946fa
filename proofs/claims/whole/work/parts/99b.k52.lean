/-! ===== the law from its entry ===== -/
theorem nd_13 : ∀ j, j < 59 → defaultValue (cl_ty 13 j) = vp_V [.int 0, .int 0, .int 0, .null, .null, .null, .int 0, .null, .null, .null, .null, .int 0, .null, .null, .null, .null, .null, .null, .null, .null, .null, .null, .null, .null, .null, .null, .null, .int 0, .int 0, .null, .null, .null, .null, .null, .null, .int 0, .null, .null, .null, .null, .null, .null, .null, .null, .null, .null, .int 0, .null, .null, .int 0, .int 0, .int 0, .int 0, .int 0, .null, .null, .null, .null, .int 0] j
  | 0, _ => rfl
  | 1, _ => rfl
  | 2, _ => rfl
  | 3, _ => rfl
  | 4, _ => rfl
  | 5, _ => rfl
  | 6, _ => rfl
  | 7, _ => rfl
  | 8, _ => rfl
  | 9, _ => rfl
  | 10, _ => rfl
  | 11, _ => rfl
  | 12, _ => rfl
  | 13, _ => rfl
  | 14, _ => rfl
  | 15, _ => rfl
  | 16, _ => rfl
  | 17, _ => rfl
  | 18, _ => rfl
  | 19, _ => rfl
  | 20, _ => rfl
  | 21, _ => rfl
  | 22, _ => rfl
  | 23, _ => rfl
  | 24, _ => rfl
  | 25, _ => rfl
  | 26, _ => rfl
  | 27, _ => rfl
  | 28, _ => rfl
  | 29, _ => rfl
  | 30, _ => rfl
  | 31, _ => rfl
  | 32, _ => rfl
  | 33, _ => rfl
  | 34, _ => rfl
  | 35, _ => rfl
  | 36, _ => rfl
  | 37, _ => rfl
  | 38, _ => rfl
  | 39, _ => rfl
  | 40, _ => rfl
  | 41, _ => rfl
  | 42, _ => rfl
  | 43, _ => rfl
  | 44, _ => rfl
  | 45, _ => rfl
  | 46, _ => rfl
  | 47, _ => rfl
  | 48, _ => rfl
  | 49, _ => rfl
  | 50, _ => rfl
  | 51, _ => rfl
  | 52, _ => rfl
  | 53, _ => rfl
  | 54, _ => rfl
  | 55, _ => rfl
  | 56, _ => rfl
  | 57, _ => rfl
  | 58, _ => rfl
  | n + 59, hn => absurd hn (by omega)
section K52
variable {l : Launch} {G : WG} {nm : String} {a x : Nat} {am : Nat → Nat} {M : MS} {h h0 h2 h4 hp : Hp} {A : AD}
theorem JJ.first (hI : Inv M) (hR : RH G hp A M h2) (hA : A.1 0 0 = a) (hx : h2 x = none) (hM : InM x am M h4) (hfr : ∀ k, isArr k = true → h2 (am k) = none) (hk : ∀ q, h2 q ≠ none → h4 q = h2 q) : JJ G a x am M h4 := by
  obtain ⟨r1, r2, r3, r4, r5, r6⟩ := hR
  have he := r3 _ _ r4
  have hs : ∀ k i, vld A M k i → h2 (A.1 k i) ≠ none := fun k i hv z => by rw [r1 k i hv] at z; cases z
  have g1 : x ≠ gE G := fun z => by rw [z, he.1] at hx; cases hx
  have g2 : ∀ k, isArr k = true → am k ≠ gE G := fun k hk z => by have := hfr k hk; rw [z, he.1] at this; cases this
  refine ⟨hM, ⟨g1, g2⟩, hI, A, ⟨fun k i hv => ?_, r2, fun q e hq => ?_, hpm_e, r5, r6⟩, hA⟩
  · rw [hk _ (hs k i hv)]; exact r1 k i hv
  · unfold hpm at hq
    by_cases c1 : q = gE G
    · rw [if_pos c1] at hq
      subst c1
      cases hq
      exact ⟨by rw [hk _ (by rw [he.1]; exact fun z => by cases z)]; exact he.1, he.2⟩
    · rw [if_neg c1] at hq
      by_cases c2 : q = x ∨ q ∈ amL am
      · rw [if_pos c2] at hq
        refine ⟨hq, fun k i hv z => hs k i hv ?_⟩
        rw [z]
        rcases c2 with c2 | c2
        · rw [c2]; exact hx
        · obtain ⟨j, hj, rfl⟩ := mem_amL.mp c2
          exact hfr j hj
      · rw [if_neg c2] at hq; cases hq
def hE0 (G : WG) : Hp := fun q => if q = gE G then some e_nil else none
theorem lw_body (hb : gB G < (gH G).size) (hL : gL G ≤ 3073) : wp l G (mLaw nm) (lwZ G) 0 [some (.ref (gB G)), none, none, none] [] (hE0 G) 11847 943984 := by
  obtain ⟨h, hh⟩ : ∃ h, h = hE0 G := ⟨_, rfl⟩
  rw [← hh]
  refine wp_newC (pc := 0) (rc := 11846) (rs := 943966) (ci := 12) (N := 18) (fs := [.int 0, .null, .null, .null, .null, .null, .null, .null, .int 0, .int 0, .int 0, .int 0, .int 0, .int 0, .int 0, .int 0, .int 0, .int 0]) dL_law_0 nw_L_7 rfl nd_12 (fun a h1 an ac af => ?_)
  refine wp_dup (pc := 3) dL_law_3 rfl ?_
  refine wp_aload_n (pc := 4) dL_law_4 rfl rfl ?_
  refine wp_iconst (pc := 5) (v := 0) dL_law_5 (by decide) ?_
  refine wc_SP (pc := 6) (μ2 := mL_cell) (rc := 11846) (rs := 943966) [_, _] dL_law_6 rfl cs_L_9 rfl ⟨(Nat.le_of_ble_eq_true rfl), (Nat.le_of_ble_eq_true rfl)⟩ (Nat.le_of_ble_eq_true rfl) (lw_cell l G _ hb hL) ?_
  refine wc_IN (pc := 9) (μ2 := mX11_init) (rc := 11821) (rs := 943672) [_] dL_law_9 rfl cc_L_15 rfl ⟨(Nat.le_of_ble_eq_true rfl), (Nat.le_of_ble_eq_true rfl)⟩ (Nat.le_of_ble_eq_true rfl) (c_i11 l G _ ac) (fun h2 q => ?_)
  obtain ⟨B, hB, hT⟩ := q
  refine wp_astore_n (pc := 12) (lv' := [_, _, _, _]) dL_law_12 rfl (Nat.le_of_ble_eq_true rfl) rfl rfl ?_
  have hea : a ≠ gE G := fun z => by rw [z, hh] at an; unfold hE0 at an; rw [if_pos rfl] at an; cases an
  have he1 : h1 (gE G) = some e_nil := by rw [af _ (Ne.symm hea), hh]; unfold hE0; rw [if_pos rfl]
  obtain ⟨A, hR, hA⟩ := hB.done (hp := hE0 G) hT (fun q e hq => by
    unfold hE0 at hq
    by_cases c1 : q = gE G
    · rw [if_pos c1] at hq; cases hq; rw [c1]; exact ⟨he1, Ne.symm hea⟩
    · rw [if_neg c1] at hq; cases hq) (by unfold hE0; rw [if_pos rfl])
  clear hB hT
  refine wp_newC (pc := 13) (rc := 11820) (rs := 943613) (ci := 13) (N := 59) (fs := [.int 0, .int 0, .int 0, .null, .null, .null, .int 0, .null, .null, .null, .null, .int 0, .null, .null, .null, .null, .null, .null, .null, .null, .null, .null, .null, .null, .null, .null, .null, .int 0, .int 0, .null, .null, .null, .null, .null, .null, .int 0, .null, .null, .null, .null, .null, .null, .null, .null, .null, .null, .int 0, .null, .null, .int 0, .int 0, .int 0, .int 0, .int 0, .null, .null, .null, .null, .int 0]) dL_law_13 nw_L_18 rfl nd_13 (fun x h3 xn xc xf => ?_)
  refine wp_dup (pc := 16) dL_law_16 rfl ?_
  refine wp_aload_n (pc := 17) dL_law_17 rfl rfl ?_
  refine wp_iconst (pc := 18) (v := 0) dL_law_18 (by decide) ?_
  refine wc_SP (pc := 19) (μ2 := mL_cell) (rc := 11820) (rs := 943613) [_, _] dL_law_19 rfl cs_L_9 rfl ⟨(Nat.le_of_ble_eq_true rfl), (Nat.le_of_ble_eq_true rfl)⟩ (Nat.le_of_ble_eq_true rfl) (lw_cell l G _ hb hL) ?_
  refine wc_IN (pc := 22) (μ2 := mX12_init) (rc := 11776) (rs := 934400) [_] dL_law_22 rfl cc_L_20 rfl ⟨(Nat.le_of_ble_eq_true rfl), (Nat.le_of_ble_eq_true rfl)⟩ (Nat.le_of_ble_eq_true rfl) (ms_init l G x _ _ xc) (fun h4 q => ?_)
  obtain ⟨am, hM, f1, f2⟩ := q
  refine wp_astore_n (pc := 25) (lv' := [_, _, _, _]) dL_law_25 rfl (Nat.le_of_ble_eq_true rfl) rfl rfl ?_
  refine wp_iconst (pc := 26) (v := 1) dL_law_26 (by decide) ?_
  refine wp_istore_n (pc := 27) (lv' := [_, _, _, _]) dL_law_27 rfl (Nat.le_of_ble_eq_true rfl) rfl rfl ?_
  refine lw_loop hb hL 512 1 _ _ (by omega) (by omega) (JJ.first (Inv.first _) hR hA xn hM (fun k hk => ?_) (fun q hq => ?_))
  · rw [← xf _ (hM.2.2.1 k hk)]; exact f1 k hk
  · have hqx : q ≠ x := fun z => hq (by rw [z]; exact xn)
    rw [f2 q hqx (by rw [xf q hqx]; exact hq), xf q hqx]
end K52
