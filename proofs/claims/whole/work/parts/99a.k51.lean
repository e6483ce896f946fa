/-! THE CLAIM OUT OF ONE WALK OF THE LAW'S BODY. Your part is whole_start (and what it stands on); all else here is the same for every law, but numbers. -/
def R_law : String := "LeaseBoardLaw"
def lw_P (b : Addr) (xs : List Int32) (args : Array Value) (s : State) : Prop := args = #[.ref b] ∧ s.IntsAt b xs ∧ xs.length ≤ 3073 ∧ (Jvm.Cond.and given_1 narrow_1).before args s = true
def lw_Q (_ : Array Value) (s : State) (o : Outcome) (t : State) : Prop := o = .returned (some (.int 1)) ∧ Framed s o t [] 600000 7302250
def lw_Z (below : List Frame) (a : Array Value) (s : State) : State → Prop := fun t => ∃ o, t.status = .running ∧ Ended t below o ∧ lw_Q a s o t
/-- the law's own end, with 1 on the stack, nothing written that was there before, its room as the claim has it -/
theorem lw_ret {p : Program} {l : Launch} {e : Env} {s : State} {m : MethodId} {below : List Frame} {meth : Method} {c : Code} {b : Nat} (hx : p.tables.exec = Jvm.exec) (hb : c.code = code) (hr : meth.sig.returnType = ret) (hlocks : meth.locks = false) {pc : Nat} {H : Heap} {ls : Array Slot} (hdg : decode code pc = .ok (.ireturn, 1)) : W p l e room_1 s m #[Value.ref b] below meth c H [] 600000 7302250 (lw_Z below #[Value.ref b] s) (F0 m pc ls [.int 1]) := by
  intro T hT X
  obtain ⟨fs, hret, hrun, hended, hW, hframe⟩ := X.leave (v := some (.int 1)) (hlocks := hlocks) (fun h => by rw [hr] at h; cases h)
  have hmeth' : T.vm.method? m = some meth := X.method'
  refine ⟨T.setFrames fs, ?_, .returned (some (.int 1)), hrun, hended, rfl, ⟨_, rfl⟩, hW, hframe⟩
  jvm_step X.here [X.here.top, hx, hb, hdg, hmeth', hr, ret, narrow_b1]
  (try refine ⟨rfl, ?_⟩); (try refine ⟨rfl, ?_⟩)
  first | (intro acts; rw [hret _ acts rfl rfl rfl]) | rw [hret _ _ rfl rfl rfl]
  exact Steps.refl _
/-- what holds at the law's entry: the machine, the code, the tables' words (any of lw_tbl by 'hts w (by decide +kernel)'), the script of L ints xs at the cell b, what the Statement gives of the start (any of its parts by flat_of_before) -/
def lw_At (p : Program) (s : State) (m : MethodId) (meth : Method) (c : Code) (b L : Nat) (xs : Nat → Int32) : Prop :=
  p.tables.exec = Jvm.exec ∧ c.code = code ∧ meth.sig.returnType = ret ∧ c.maxLocals = 4 ∧ s.vm.findClass R_law = some m.cls ∧ (∀ w ∈ lw_tbl, w.before #[Value.ref b] s = true) ∧ va_X b L xs s s.heap ∧ b < s.heap.size ∧ meth.locks = false ∧ (Jvm.Cond.and given_1 narrow_1).before #[Value.ref b] s = true
theorem lw_retG {p : Program} {l : Launch} {e : Env} {s : State} {m : MethodId} {args : Array Value} {below : List Frame} {meth : Method} {c : Code} (hx : p.tables.exec = Jvm.exec) (hb : c.code = code) (hr : meth.sig.returnType = ret) (hlocks : meth.locks = false) {pc : Nat} {H : Heap} {ls : Array Slot} (hdg : decode code pc = .ok (.ireturn, 1)) : W p l e room_1 s m args below meth c H [] 600000 7302250 (lw_Z below args s) (F0 m pc ls [.int 1]) := by
  intro T hT X
  obtain ⟨fs, hret, hrun, hended, hW, hframe⟩ := X.leave (v := some (.int 1)) (hlocks := hlocks) (fun h => by rw [hr] at h; cases h)
  have hmeth' : T.vm.method? m = some meth := X.method'
  refine ⟨T.setFrames fs, ?_, .returned (some (.int 1)), hrun, hended, rfl, ⟨_, rfl⟩, hW, hframe⟩
  jvm_step X.here [X.here.top, hx, hb, hdg, hmeth', hr, ret, narrow_b1]
  (try refine ⟨rfl, ?_⟩); (try refine ⟨rfl, ?_⟩)
  first | (intro acts; rw [hret _ acts rfl rfl rfl]) | rw [hret _ _ rfl rfl rfl]
  exact Steps.refl _
/-- what the law comes to, from a start whose heap is the world's -/
def lwZ (G : WG) : WZ := fun below args s t => s.heap = gH G → lw_Z below args s t
section K51
variable {l : Launch} {G : WG} {nm : String} {a x : Nat} {am : Nat → Nat} {M : MS} {h : Hp} {i n : Nat}
theorem lw_end {pc rc rs : Nat} {lv : List (Option Value)} (hd : decode code pc = .ok (.ireturn, 1)) : wp l G (mLaw nm) (lwZ G) pc lv [.int 1] h rc rs := by
  intro p e s m args below meth c C H locs cells slots ls hR hlo hcc hss hl hn
  have hcc : cells + rc ≤ 600000 := hcc
  have hss : slots + rs ≤ 7302250 := hss
  by_cases he : s.heap = gH G
  · have K : W p l e room_1 s m args below meth c H locs cells slots (lw_Z below args s) (F0 m pc ls [.int 1]) := va_forget (by rw [he]; exact hlo) (W.widen (k := 600000) (n := 7302250) (by omega) (by omega) (lw_retG C.1 C.2.1 C.2.2.1 C.2.2.2.2.2.2.2.1 hd))
    intro T hT X
    obtain ⟨t, k1, k2⟩ := K T hT X
    exact ⟨t, k1, fun _ => k2⟩
  · intro T hT X
    exact ⟨_, Steps.refl _, fun z => absurd z he⟩
theorem lw_next (hJ : JJ G a x am M h) (ih : ∀ (M' : MS) (h' : Hp), JJ G a x am M' h' → wp l G (mLaw nm) (lwZ G) 28 [some (.ref (gB G)), some (.ref a), some (.ref x), some (.int (nI (i + 6)))] [] h' (n * 23) (n * 1825)) : wp l G (mLaw nm) (lwZ G) 1267 [some (.ref (gB G)), some (.ref a), some (.ref x), some (.int (nI i))] [] h (n * 23) (n * 1825) := by
  refine wp_iinc (pc := 1267) (v := _ + 6) (lv' := [_, _, _, _]) dL_law_1267 rfl rfl rfl rfl ?_
  refine wp_goto (pc := 1270) (tgt := 28) dL_law_1270 (by decide) ?_
  exact wp_lv (ih M h hJ) (by rw [← nI_add]; rfl)
theorem lw_c0 (hb : gB G < (gH G).size) (hL : gL G ≤ 3073) (hi : i + 6 ≤ gL G) (hJ : JJ G a x am M h) (ih : ∀ (M' : MS) (h' : Hp), JJ G a x am M' h' → wp l G (mLaw nm) (lwZ G) 28 [some (.ref (gB G)), some (.ref a), some (.ref x), some (.int (nI (i + 6)))] [] h' (n * 23) (n * 1825)) : wp l G (mLaw nm) (lwZ G) 176 [some (.ref (gB G)), some (.ref a), some (.ref x), some (.int (nI i))] [] h (n * 23 + 23) (n * 1825 + 1825) := by
  refine wp_widen (rc' := n * 23 + (mR mX11_keeper).cells) (rs' := n * 1825 + (mR mX11_keeper).slots) (Nat.add_le_add_left (Nat.le_of_ble_eq_true rfl) _) (Nat.add_le_add_left (Nat.le_of_ble_eq_true rfl) _) ?_
  refine wp_aload_n (pc := 176) dL_law_176 rfl rfl ?_
  refine wp_aload_n (pc := 177) dL_law_177 rfl rfl ?_
  refine wp_iload_n (pc := 178) dL_law_178 rfl rfl ?_
  refine wp_iconst (pc := 179) (v := 1) dL_law_179 (by decide) ?_
  refine wp_iadd (pc := 180) dL_law_180 ?_
  refine wp_sld (pc := 181) (i := i + 1) dL_law_181 hb (lw_ix 1 rfl hi (by decide) hL) ?_
  refine wp_aload_n (pc := 182) dL_law_182 rfl rfl ?_
  refine wp_iload_n (pc := 183) dL_law_183 rfl rfl ?_
  refine wp_iconst (pc := 184) (v := 2) dL_law_184 (by decide) ?_
  refine wp_iadd (pc := 185) dL_law_185 ?_
  refine wp_sld (pc := 186) (i := i + 2) dL_law_186 hb (lw_ix 2 rfl hi (by decide) hL) ?_
  refine lw_callC (pc := 187) (rc := n * 23) (rs := n * 1825) [_, _] dL_law_187 rfl cv_L_21_12 rfl ⟨(Nat.le_of_ble_eq_true rfl), (Nat.le_of_ble_eq_true rfl)⟩ (Nat.le_of_ble_eq_true rfl) hJ (K_keeper l G _ _ hJ.2.2) (fun h1 hM hK => ?_)
  refine wp_aload_n (pc := 190) dL_law_190 rfl rfl ?_
  refine wp_aload_n (pc := 191) dL_law_191 rfl rfl ?_
  refine wp_iload_n (pc := 192) dL_law_192 rfl rfl ?_
  refine wp_iconst (pc := 193) (v := 1) dL_law_193 (by decide) ?_
  refine wp_iadd (pc := 194) dL_law_194 ?_
  refine wp_sld (pc := 195) (i := i + 1) dL_law_195 hb (lw_ix 1 rfl hi (by decide) hL) ?_
  refine wp_aload_n (pc := 196) dL_law_196 rfl rfl ?_
  refine wp_iload_n (pc := 197) dL_law_197 rfl rfl ?_
  refine wp_iconst (pc := 198) (v := 2) dL_law_198 (by decide) ?_
  refine wp_iadd (pc := 199) dL_law_199 ?_
  refine wp_sld (pc := 200) (i := i + 2) dL_law_200 hb (lw_ix 2 rfl hi (by decide) hL) ?_
  refine lw_callR (pc := 201) [_, _] dL_law_201 rfl cv_L_25_13 rfl ⟨(Nat.le_of_ble_eq_true rfl), (Nat.le_of_ble_eq_true rfl)⟩ (Nat.le_of_ble_eq_true rfl) ⟨rfl, rfl⟩ (R_keeper l G x am _ _  hJ.2.2.1) hM hK hJ (fun h2 hJ2 => ?_)
  refine wp_icmp_eq (pc := 204) (tgt := 1267) dL_law_204 (by decide) (fun _ => ?_) (fun z => absurd rfl z)
  exact lw_next hJ2 ih
theorem lw_c1 (hb : gB G < (gH G).size) (hL : gL G ≤ 3073) (hi : i + 6 ≤ gL G) (hJ : JJ G a x am M h) (ih : ∀ (M' : MS) (h' : Hp), JJ G a x am M' h' → wp l G (mLaw nm) (lwZ G) 28 [some (.ref (gB G)), some (.ref a), some (.ref x), some (.int (nI (i + 6)))] [] h' (n * 23) (n * 1825)) : wp l G (mLaw nm) (lwZ G) 209 [some (.ref (gB G)), some (.ref a), some (.ref x), some (.int (nI i))] [] h (n * 23 + 23) (n * 1825 + 1825) := by
  refine wp_widen (rc' := n * 23 + (mR mX11_worker).cells) (rs' := n * 1825 + (mR mX11_worker).slots) (Nat.add_le_add_left (Nat.le_of_ble_eq_true rfl) _) (Nat.add_le_add_left (Nat.le_of_ble_eq_true rfl) _) ?_
  refine wp_aload_n (pc := 209) dL_law_209 rfl rfl ?_
  refine wp_aload_n (pc := 210) dL_law_210 rfl rfl ?_
  refine wp_iload_n (pc := 211) dL_law_211 rfl rfl ?_
  refine wp_iconst (pc := 212) (v := 1) dL_law_212 (by decide) ?_
  refine wp_iadd (pc := 213) dL_law_213 ?_
  refine wp_sld (pc := 214) (i := i + 1) dL_law_214 hb (lw_ix 1 rfl hi (by decide) hL) ?_
  refine wp_aload_n (pc := 215) dL_law_215 rfl rfl ?_
  refine wp_iload_n (pc := 216) dL_law_216 rfl rfl ?_
  refine wp_iconst (pc := 217) (v := 2) dL_law_217 (by decide) ?_
  refine wp_iadd (pc := 218) dL_law_218 ?_
  refine wp_sld (pc := 219) (i := i + 2) dL_law_219 hb (lw_ix 2 rfl hi (by decide) hL) ?_
  refine lw_callC (pc := 220) (rc := n * 23) (rs := n * 1825) [_, _] dL_law_220 rfl cv_L_26_12 rfl ⟨(Nat.le_of_ble_eq_true rfl), (Nat.le_of_ble_eq_true rfl)⟩ (Nat.le_of_ble_eq_true rfl) hJ (K_worker l G _ _ hJ.2.2) (fun h1 hM hK => ?_)
  refine wp_aload_n (pc := 223) dL_law_223 rfl rfl ?_
  refine wp_aload_n (pc := 224) dL_law_224 rfl rfl ?_
  refine wp_iload_n (pc := 225) dL_law_225 rfl rfl ?_
  refine wp_iconst (pc := 226) (v := 1) dL_law_226 (by decide) ?_
  refine wp_iadd (pc := 227) dL_law_227 ?_
  refine wp_sld (pc := 228) (i := i + 1) dL_law_228 hb (lw_ix 1 rfl hi (by decide) hL) ?_
  refine wp_aload_n (pc := 229) dL_law_229 rfl rfl ?_
  refine wp_iload_n (pc := 230) dL_law_230 rfl rfl ?_
  refine wp_iconst (pc := 231) (v := 2) dL_law_231 (by decide) ?_
  refine wp_iadd (pc := 232) dL_law_232 ?_
  refine wp_sld (pc := 233) (i := i + 2) dL_law_233 hb (lw_ix 2 rfl hi (by decide) hL) ?_
  refine lw_callR (pc := 234) [_, _] dL_law_234 rfl cv_L_29_13 rfl ⟨(Nat.le_of_ble_eq_true rfl), (Nat.le_of_ble_eq_true rfl)⟩ (Nat.le_of_ble_eq_true rfl) ⟨rfl, rfl⟩ (R_worker l G x am _ _  hJ.2.2.1) hM hK hJ (fun h2 hJ2 => ?_)
  refine wp_icmp_eq (pc := 237) (tgt := 1267) dL_law_237 (by decide) (fun _ => ?_) (fun z => absurd rfl z)
  exact lw_next hJ2 ih
theorem lw_c2 (hb : gB G < (gH G).size) (hL : gL G ≤ 3073) (hi : i + 6 ≤ gL G) (hJ : JJ G a x am M h) (ih : ∀ (M' : MS) (h' : Hp), JJ G a x am M' h' → wp l G (mLaw nm) (lwZ G) 28 [some (.ref (gB G)), some (.ref a), some (.ref x), some (.int (nI (i + 6)))] [] h' (n * 23) (n * 1825)) : wp l G (mLaw nm) (lwZ G) 242 [some (.ref (gB G)), some (.ref a), some (.ref x), some (.int (nI i))] [] h (n * 23 + 23) (n * 1825 + 1825) := by
  refine wp_widen (rc' := n * 23 + (mR mX11_thing).cells) (rs' := n * 1825 + (mR mX11_thing).slots) (Nat.add_le_add_left (Nat.le_of_ble_eq_true rfl) _) (Nat.add_le_add_left (Nat.le_of_ble_eq_true rfl) _) ?_
  refine wp_aload_n (pc := 242) dL_law_242 rfl rfl ?_
  refine wp_aload_n (pc := 243) dL_law_243 rfl rfl ?_
  refine wp_iload_n (pc := 244) dL_law_244 rfl rfl ?_
  refine wp_iconst (pc := 245) (v := 1) dL_law_245 (by decide) ?_
  refine wp_iadd (pc := 246) dL_law_246 ?_
  refine wp_sld (pc := 247) (i := i + 1) dL_law_247 hb (lw_ix 1 rfl hi (by decide) hL) ?_
  refine wp_aload_n (pc := 248) dL_law_248 rfl rfl ?_
  refine wp_iload_n (pc := 249) dL_law_249 rfl rfl ?_
  refine wp_iconst (pc := 250) (v := 2) dL_law_250 (by decide) ?_
  refine wp_iadd (pc := 251) dL_law_251 ?_
  refine wp_sld (pc := 252) (i := i + 2) dL_law_252 hb (lw_ix 2 rfl hi (by decide) hL) ?_
  refine wp_aload_n (pc := 253) dL_law_253 rfl rfl ?_
  refine wp_iload_n (pc := 254) dL_law_254 rfl rfl ?_
  refine wp_iconst (pc := 255) (v := 3) dL_law_255 (by decide) ?_
  refine wp_iadd (pc := 256) dL_law_256 ?_
  refine wp_sld (pc := 257) (i := i + 3) dL_law_257 hb (lw_ix 3 rfl hi (by decide) hL) ?_
  refine lw_callC (pc := 258) (rc := n * 23) (rs := n * 1825) [_, _, _] dL_law_258 rfl cv_L_30_12 rfl ⟨(Nat.le_of_ble_eq_true rfl), (Nat.le_of_ble_eq_true rfl)⟩ (Nat.le_of_ble_eq_true rfl) hJ (K_thing l G _ _ _ hJ.2.2) (fun h1 hM hK => ?_)
  refine wp_aload_n (pc := 261) dL_law_261 rfl rfl ?_
  refine wp_aload_n (pc := 262) dL_law_262 rfl rfl ?_
  refine wp_iload_n (pc := 263) dL_law_263 rfl rfl ?_
  refine wp_iconst (pc := 264) (v := 1) dL_law_264 (by decide) ?_
  refine wp_iadd (pc := 265) dL_law_265 ?_
  refine wp_sld (pc := 266) (i := i + 1) dL_law_266 hb (lw_ix 1 rfl hi (by decide) hL) ?_
  refine wp_aload_n (pc := 267) dL_law_267 rfl rfl ?_
  refine wp_iload_n (pc := 268) dL_law_268 rfl rfl ?_
  refine wp_iconst (pc := 269) (v := 2) dL_law_269 (by decide) ?_
  refine wp_iadd (pc := 270) dL_law_270 ?_
  refine wp_sld (pc := 271) (i := i + 2) dL_law_271 hb (lw_ix 2 rfl hi (by decide) hL) ?_
  refine wp_aload_n (pc := 272) dL_law_272 rfl rfl ?_
  refine wp_iload_n (pc := 273) dL_law_273 rfl rfl ?_
  refine wp_iconst (pc := 274) (v := 3) dL_law_274 (by decide) ?_
  refine wp_iadd (pc := 275) dL_law_275 ?_
  refine wp_sld (pc := 276) (i := i + 3) dL_law_276 hb (lw_ix 3 rfl hi (by decide) hL) ?_
  refine lw_callR (pc := 277) [_, _, _] dL_law_277 rfl cv_L_34_13 rfl ⟨(Nat.le_of_ble_eq_true rfl), (Nat.le_of_ble_eq_true rfl)⟩ (Nat.le_of_ble_eq_true rfl) ⟨rfl, rfl⟩ (R_thing l G x am _ _ _  hJ.2.2.1) hM hK hJ (fun h2 hJ2 => ?_)
  refine wp_icmp_eq (pc := 280) (tgt := 1267) dL_law_280 (by decide) (fun _ => ?_) (fun z => absurd rfl z)
  exact lw_next hJ2 ih
theorem lw_c3 (hb : gB G < (gH G).size) (hL : gL G ≤ 3073) (hi : i + 6 ≤ gL G) (hJ : JJ G a x am M h) (ih : ∀ (M' : MS) (h' : Hp), JJ G a x am M' h' → wp l G (mLaw nm) (lwZ G) 28 [some (.ref (gB G)), some (.ref a), some (.ref x), some (.int (nI (i + 6)))] [] h' (n * 23) (n * 1825)) : wp l G (mLaw nm) (lwZ G) 285 [some (.ref (gB G)), some (.ref a), some (.ref x), some (.int (nI i))] [] h (n * 23 + 23) (n * 1825 + 1825) := by
  refine wp_widen (rc' := n * 23 + (mR mX11_store).cells) (rs' := n * 1825 + (mR mX11_store).slots) (Nat.add_le_add_left (Nat.le_of_ble_eq_true rfl) _) (Nat.add_le_add_left (Nat.le_of_ble_eq_true rfl) _) ?_
  refine wp_aload_n (pc := 285) dL_law_285 rfl rfl ?_
  refine lw_callC (pc := 286) (rc := n * 23) (rs := n * 1825) [] dL_law_286 rfl cv_L_35_12 rfl ⟨(Nat.le_of_ble_eq_true rfl), (Nat.le_of_ble_eq_true rfl)⟩ (Nat.le_of_ble_eq_true rfl) hJ (K_store l G hJ.2.2) (fun h1 hM hK => ?_)
  refine wp_aload_n (pc := 289) dL_law_289 rfl rfl ?_
  refine lw_callR (pc := 290) [] dL_law_290 rfl cv_L_39_13 rfl ⟨(Nat.le_of_ble_eq_true rfl), (Nat.le_of_ble_eq_true rfl)⟩ (Nat.le_of_ble_eq_true rfl) ⟨rfl, rfl⟩ (R_store l G x am  hJ.2.2.1) hM hK hJ (fun h2 hJ2 => ?_)
  refine wp_icmp_eq (pc := 293) (tgt := 1267) dL_law_293 (by decide) (fun _ => ?_) (fun z => absurd rfl z)
  exact lw_next hJ2 ih
theorem lw_c4 (hb : gB G < (gH G).size) (hL : gL G ≤ 3073) (hi : i + 6 ≤ gL G) (hJ : JJ G a x am M h) (ih : ∀ (M' : MS) (h' : Hp), JJ G a x am M' h' → wp l G (mLaw nm) (lwZ G) 28 [some (.ref (gB G)), some (.ref a), some (.ref x), some (.int (nI (i + 6)))] [] h' (n * 23) (n * 1825)) : wp l G (mLaw nm) (lwZ G) 298 [some (.ref (gB G)), some (.ref a), some (.ref x), some (.int (nI i))] [] h (n * 23 + 23) (n * 1825 + 1825) := by
  refine wp_widen (rc' := n * 23 + (mR mX11_tick).cells) (rs' := n * 1825 + (mR mX11_tick).slots) (Nat.add_le_add_left (Nat.le_of_ble_eq_true rfl) _) (Nat.add_le_add_left (Nat.le_of_ble_eq_true rfl) _) ?_
  refine wp_aload_n (pc := 298) dL_law_298 rfl rfl ?_
  refine wp_aload_n (pc := 299) dL_law_299 rfl rfl ?_
  refine wp_iload_n (pc := 300) dL_law_300 rfl rfl ?_
  refine wp_iconst (pc := 301) (v := 1) dL_law_301 (by decide) ?_
  refine wp_iadd (pc := 302) dL_law_302 ?_
  refine wp_sld (pc := 303) (i := i + 1) dL_law_303 hb (lw_ix 1 rfl hi (by decide) hL) ?_
  refine lw_callC (pc := 304) (rc := n * 23) (rs := n * 1825) [_] dL_law_304 rfl cv_L_40_12 rfl ⟨(Nat.le_of_ble_eq_true rfl), (Nat.le_of_ble_eq_true rfl)⟩ (Nat.le_of_ble_eq_true rfl) hJ (K_tick l G _ hJ.2.2) (fun h1 hM hK => ?_)
  refine wp_aload_n (pc := 307) dL_law_307 rfl rfl ?_
  refine wp_aload_n (pc := 308) dL_law_308 rfl rfl ?_
  refine wp_iload_n (pc := 309) dL_law_309 rfl rfl ?_
  refine wp_iconst (pc := 310) (v := 1) dL_law_310 (by decide) ?_
  refine wp_iadd (pc := 311) dL_law_311 ?_
  refine wp_sld (pc := 312) (i := i + 1) dL_law_312 hb (lw_ix 1 rfl hi (by decide) hL) ?_
  refine lw_callR (pc := 313) [_] dL_law_313 rfl cv_L_44_13 rfl ⟨(Nat.le_of_ble_eq_true rfl), (Nat.le_of_ble_eq_true rfl)⟩ (Nat.le_of_ble_eq_true rfl) ⟨rfl, rfl⟩ (R_tick l G x am _  hJ.2.2.1) hM hK hJ (fun h2 hJ2 => ?_)
  refine wp_icmp_eq (pc := 316) (tgt := 1267) dL_law_316 (by decide) (fun _ => ?_) (fun z => absurd rfl z)
  exact lw_next hJ2 ih
theorem lw_c5 (hb : gB G < (gH G).size) (hL : gL G ≤ 3073) (hi : i + 6 ≤ gL G) (hJ : JJ G a x am M h) (ih : ∀ (M' : MS) (h' : Hp), JJ G a x am M' h' → wp l G (mLaw nm) (lwZ G) 28 [some (.ref (gB G)), some (.ref a), some (.ref x), some (.int (nI (i + 6)))] [] h' (n * 23) (n * 1825)) : wp l G (mLaw nm) (lwZ G) 321 [some (.ref (gB G)), some (.ref a), some (.ref x), some (.int (nI i))] [] h (n * 23 + 23) (n * 1825 + 1825) := by
  refine wp_widen (rc' := n * 23 + (mR mX11_clock).cells) (rs' := n * 1825 + (mR mX11_clock).slots) (Nat.add_le_add_left (Nat.le_of_ble_eq_true rfl) _) (Nat.add_le_add_left (Nat.le_of_ble_eq_true rfl) _) ?_
  refine wp_aload_n (pc := 321) dL_law_321 rfl rfl ?_
  refine wp_aload_n (pc := 322) dL_law_322 rfl rfl ?_
  refine wp_iload_n (pc := 323) dL_law_323 rfl rfl ?_
  refine wp_iconst (pc := 324) (v := 1) dL_law_324 (by decide) ?_
  refine wp_iadd (pc := 325) dL_law_325 ?_
  refine wp_sld (pc := 326) (i := i + 1) dL_law_326 hb (lw_ix 1 rfl hi (by decide) hL) ?_
  refine wp_aload_n (pc := 327) dL_law_327 rfl rfl ?_
  refine wp_iload_n (pc := 328) dL_law_328 rfl rfl ?_
  refine wp_iconst (pc := 329) (v := 2) dL_law_329 (by decide) ?_
  refine wp_iadd (pc := 330) dL_law_330 ?_
  refine wp_sld (pc := 331) (i := i + 2) dL_law_331 hb (lw_ix 2 rfl hi (by decide) hL) ?_
  refine lw_callC (pc := 332) (rc := n * 23) (rs := n * 1825) [_, _] dL_law_332 rfl cv_L_45_12 rfl ⟨(Nat.le_of_ble_eq_true rfl), (Nat.le_of_ble_eq_true rfl)⟩ (Nat.le_of_ble_eq_true rfl) hJ (K_clock l G _ _ hJ.2.2) (fun h1 hM hK => ?_)
  refine wp_aload_n (pc := 335) dL_law_335 rfl rfl ?_
  refine wp_aload_n (pc := 336) dL_law_336 rfl rfl ?_
  refine wp_iload_n (pc := 337) dL_law_337 rfl rfl ?_
  refine wp_iconst (pc := 338) (v := 1) dL_law_338 (by decide) ?_
  refine wp_iadd (pc := 339) dL_law_339 ?_
  refine wp_sld (pc := 340) (i := i + 1) dL_law_340 hb (lw_ix 1 rfl hi (by decide) hL) ?_
  refine wp_aload_n (pc := 341) dL_law_341 rfl rfl ?_
  refine wp_iload_n (pc := 342) dL_law_342 rfl rfl ?_
  refine wp_iconst (pc := 343) (v := 2) dL_law_343 (by decide) ?_
  refine wp_iadd (pc := 344) dL_law_344 ?_
  refine wp_sld (pc := 345) (i := i + 2) dL_law_345 hb (lw_ix 2 rfl hi (by decide) hL) ?_
  refine lw_callR (pc := 346) [_, _] dL_law_346 rfl cv_L_49_13 rfl ⟨(Nat.le_of_ble_eq_true rfl), (Nat.le_of_ble_eq_true rfl)⟩ (Nat.le_of_ble_eq_true rfl) ⟨rfl, rfl⟩ (R_clock l G x am _ _  hJ.2.2.1) hM hK hJ (fun h2 hJ2 => ?_)
  refine wp_lcmp_eq (pc := 349) (tgt := 1267) dL_law_349 dL_law_350 (by decide) (fun _ => ?_) (fun z => absurd rfl z)
  exact lw_next hJ2 ih
theorem lw_c6 (hb : gB G < (gH G).size) (hL : gL G ≤ 3073) (hi : i + 6 ≤ gL G) (hJ : JJ G a x am M h) (ih : ∀ (M' : MS) (h' : Hp), JJ G a x am M' h' → wp l G (mLaw nm) (lwZ G) 28 [some (.ref (gB G)), some (.ref a), some (.ref x), some (.int (nI (i + 6)))] [] h' (n * 23) (n * 1825)) : wp l G (mLaw nm) (lwZ G) 355 [some (.ref (gB G)), some (.ref a), some (.ref x), some (.int (nI i))] [] h (n * 23 + 23) (n * 1825 + 1825) := by
  refine wp_widen (rc' := n * 23 + (mR mX11_wake).cells) (rs' := n * 1825 + (mR mX11_wake).slots) (Nat.add_le_add_left (Nat.le_of_ble_eq_true rfl) _) (Nat.add_le_add_left (Nat.le_of_ble_eq_true rfl) _) ?_
  refine wp_aload_n (pc := 355) dL_law_355 rfl rfl ?_
  refine wp_aload_n (pc := 356) dL_law_356 rfl rfl ?_
  refine wp_iload_n (pc := 357) dL_law_357 rfl rfl ?_
  refine wp_iconst (pc := 358) (v := 1) dL_law_358 (by decide) ?_
  refine wp_iadd (pc := 359) dL_law_359 ?_
  refine wp_sld (pc := 360) (i := i + 1) dL_law_360 hb (lw_ix 1 rfl hi (by decide) hL) ?_
  refine wp_aload_n (pc := 361) dL_law_361 rfl rfl ?_
  refine wp_iload_n (pc := 362) dL_law_362 rfl rfl ?_
  refine wp_iconst (pc := 363) (v := 2) dL_law_363 (by decide) ?_
  refine wp_iadd (pc := 364) dL_law_364 ?_
  refine wp_sld (pc := 365) (i := i + 2) dL_law_365 hb (lw_ix 2 rfl hi (by decide) hL) ?_
  refine wp_aload_n (pc := 366) dL_law_366 rfl rfl ?_
  refine wp_iload_n (pc := 367) dL_law_367 rfl rfl ?_
  refine wp_iconst (pc := 368) (v := 3) dL_law_368 (by decide) ?_
  refine wp_iadd (pc := 369) dL_law_369 ?_
  refine wp_sld (pc := 370) (i := i + 3) dL_law_370 hb (lw_ix 3 rfl hi (by decide) hL) ?_
  refine wp_if_eq (pc := 371) (tgt := 378) dL_law_371 (by decide) (fun c371 => ?_) (fun c371 => ?_)
  · skip
    refine wp_iconst (pc := 378) (v := 0) dL_law_378 (by decide) ?_
    refine lw_callC (pc := 379) (rc := n * 23) (rs := n * 1825) [_, _, _] dL_law_379 rfl cv_L_50_12 rfl ⟨(Nat.le_of_ble_eq_true rfl), (Nat.le_of_ble_eq_true rfl)⟩ (Nat.le_of_ble_eq_true rfl) hJ (K_wake l G _ _ _ (Or.inl rfl) hJ.2.2) (fun h1 hM hK => ?_)
    refine wp_aload_n (pc := 382) dL_law_382 rfl rfl ?_
    refine wp_aload_n (pc := 383) dL_law_383 rfl rfl ?_
    refine wp_iload_n (pc := 384) dL_law_384 rfl rfl ?_
    refine wp_iconst (pc := 385) (v := 1) dL_law_385 (by decide) ?_
    refine wp_iadd (pc := 386) dL_law_386 ?_
    refine wp_sld (pc := 387) (i := i + 1) dL_law_387 hb (lw_ix 1 rfl hi (by decide) hL) ?_
    refine wp_aload_n (pc := 388) dL_law_388 rfl rfl ?_
    refine wp_iload_n (pc := 389) dL_law_389 rfl rfl ?_
    refine wp_iconst (pc := 390) (v := 2) dL_law_390 (by decide) ?_
    refine wp_iadd (pc := 391) dL_law_391 ?_
    refine wp_sld (pc := 392) (i := i + 2) dL_law_392 hb (lw_ix 2 rfl hi (by decide) hL) ?_
    refine wp_aload_n (pc := 393) dL_law_393 rfl rfl ?_
    refine wp_iload_n (pc := 394) dL_law_394 rfl rfl ?_
    refine wp_iconst (pc := 395) (v := 3) dL_law_395 (by decide) ?_
    refine wp_iadd (pc := 396) dL_law_396 ?_
    refine wp_sld (pc := 397) (i := i + 3) dL_law_397 hb (lw_ix 3 rfl hi (by decide) hL) ?_
    refine wp_if_eq (pc := 398) (tgt := 405) dL_law_398 (by decide) (fun _ => ?_) (fun z => absurd c371 z)
    refine wp_iconst (pc := 405) (v := 0) dL_law_405 (by decide) ?_
    refine lw_callR (pc := 406) [_, _, _] dL_law_406 rfl cv_L_54_13 rfl ⟨(Nat.le_of_ble_eq_true rfl), (Nat.le_of_ble_eq_true rfl)⟩ (Nat.le_of_ble_eq_true rfl) ⟨rfl, rfl⟩ (R_wake l G x am _ _ _ (Or.inl rfl)  hJ.2.2.1) hM hK hJ (fun h2 hJ2 => ?_)
    refine wp_icmp_eq (pc := 409) (tgt := 1267) dL_law_409 (by decide) (fun _ => ?_) (fun z => absurd rfl z)
    exact lw_next hJ2 ih
  · skip
    refine wp_iconst (pc := 374) (v := 1) dL_law_374 (by decide) ?_
    refine wp_goto (pc := 375) (tgt := 379) dL_law_375 (by decide) ?_
    refine lw_callC (pc := 379) (rc := n * 23) (rs := n * 1825) [_, _, _] dL_law_379 rfl cv_L_50_12 rfl ⟨(Nat.le_of_ble_eq_true rfl), (Nat.le_of_ble_eq_true rfl)⟩ (Nat.le_of_ble_eq_true rfl) hJ (K_wake l G _ _ _ (Or.inr rfl) hJ.2.2) (fun h1 hM hK => ?_)
    refine wp_aload_n (pc := 382) dL_law_382 rfl rfl ?_
    refine wp_aload_n (pc := 383) dL_law_383 rfl rfl ?_
    refine wp_iload_n (pc := 384) dL_law_384 rfl rfl ?_
    refine wp_iconst (pc := 385) (v := 1) dL_law_385 (by decide) ?_
    refine wp_iadd (pc := 386) dL_law_386 ?_
    refine wp_sld (pc := 387) (i := i + 1) dL_law_387 hb (lw_ix 1 rfl hi (by decide) hL) ?_
    refine wp_aload_n (pc := 388) dL_law_388 rfl rfl ?_
    refine wp_iload_n (pc := 389) dL_law_389 rfl rfl ?_
    refine wp_iconst (pc := 390) (v := 2) dL_law_390 (by decide) ?_
    refine wp_iadd (pc := 391) dL_law_391 ?_
    refine wp_sld (pc := 392) (i := i + 2) dL_law_392 hb (lw_ix 2 rfl hi (by decide) hL) ?_
    refine wp_aload_n (pc := 393) dL_law_393 rfl rfl ?_
    refine wp_iload_n (pc := 394) dL_law_394 rfl rfl ?_
    refine wp_iconst (pc := 395) (v := 3) dL_law_395 (by decide) ?_
    refine wp_iadd (pc := 396) dL_law_396 ?_
    refine wp_sld (pc := 397) (i := i + 3) dL_law_397 hb (lw_ix 3 rfl hi (by decide) hL) ?_
    refine wp_if_eq (pc := 398) (tgt := 405) dL_law_398 (by decide) (fun z => absurd z c371) (fun _ => ?_)
    refine wp_iconst (pc := 401) (v := 1) dL_law_401 (by decide) ?_
    refine wp_goto (pc := 402) (tgt := 406) dL_law_402 (by decide) ?_
    refine lw_callR (pc := 406) [_, _, _] dL_law_406 rfl cv_L_54_13 rfl ⟨(Nat.le_of_ble_eq_true rfl), (Nat.le_of_ble_eq_true rfl)⟩ (Nat.le_of_ble_eq_true rfl) ⟨rfl, rfl⟩ (R_wake l G x am _ _ _ (Or.inr rfl)  hJ.2.2.1) hM hK hJ (fun h2 hJ2 => ?_)
    refine wp_icmp_eq (pc := 409) (tgt := 1267) dL_law_409 (by decide) (fun _ => ?_) (fun z => absurd rfl z)
    exact lw_next hJ2 ih
theorem lw_c7 (hb : gB G < (gH G).size) (hL : gL G ≤ 3073) (hi : i + 6 ≤ gL G) (hJ : JJ G a x am M h) (ih : ∀ (M' : MS) (h' : Hp), JJ G a x am M' h' → wp l G (mLaw nm) (lwZ G) 28 [some (.ref (gB G)), some (.ref a), some (.ref x), some (.int (nI (i + 6)))] [] h' (n * 23) (n * 1825)) : wp l G (mLaw nm) (lwZ G) 414 [some (.ref (gB G)), some (.ref a), some (.ref x), some (.int (nI i))] [] h (n * 23 + 23) (n * 1825 + 1825) := by
  refine wp_widen (rc' := n * 23 + (mR mX11_fall).cells) (rs' := n * 1825 + (mR mX11_fall).slots) (Nat.add_le_add_left (Nat.le_of_ble_eq_true rfl) _) (Nat.add_le_add_left (Nat.le_of_ble_eq_true rfl) _) ?_
  refine wp_aload_n (pc := 414) dL_law_414 rfl rfl ?_
  refine wp_aload_n (pc := 415) dL_law_415 rfl rfl ?_
  refine wp_iload_n (pc := 416) dL_law_416 rfl rfl ?_
  refine wp_iconst (pc := 417) (v := 1) dL_law_417 (by decide) ?_
  refine wp_iadd (pc := 418) dL_law_418 ?_
  refine wp_sld (pc := 419) (i := i + 1) dL_law_419 hb (lw_ix 1 rfl hi (by decide) hL) ?_
  refine lw_callC (pc := 420) (rc := n * 23) (rs := n * 1825) [_] dL_law_420 rfl cv_L_55_12 rfl ⟨(Nat.le_of_ble_eq_true rfl), (Nat.le_of_ble_eq_true rfl)⟩ (Nat.le_of_ble_eq_true rfl) hJ (K_fall l G _ hJ.2.2) (fun h1 hM hK => ?_)
  refine wp_aload_n (pc := 423) dL_law_423 rfl rfl ?_
  refine wp_aload_n (pc := 424) dL_law_424 rfl rfl ?_
  refine wp_iload_n (pc := 425) dL_law_425 rfl rfl ?_
  refine wp_iconst (pc := 426) (v := 1) dL_law_426 (by decide) ?_
  refine wp_iadd (pc := 427) dL_law_427 ?_
  refine wp_sld (pc := 428) (i := i + 1) dL_law_428 hb (lw_ix 1 rfl hi (by decide) hL) ?_
  refine lw_callR (pc := 429) [_] dL_law_429 rfl cv_L_58_13 rfl ⟨(Nat.le_of_ble_eq_true rfl), (Nat.le_of_ble_eq_true rfl)⟩ (Nat.le_of_ble_eq_true rfl) ⟨rfl, rfl⟩ (R_fall l G x am _  hJ.2.2.1) hM hK hJ (fun h2 hJ2 => ?_)
  refine wp_icmp_eq (pc := 432) (tgt := 1267) dL_law_432 (by decide) (fun _ => ?_) (fun z => absurd rfl z)
  exact lw_next hJ2 ih
theorem lw_c8 (hb : gB G < (gH G).size) (hL : gL G ≤ 3073) (hi : i + 6 ≤ gL G) (hJ : JJ G a x am M h) (ih : ∀ (M' : MS) (h' : Hp), JJ G a x am M' h' → wp l G (mLaw nm) (lwZ G) 28 [some (.ref (gB G)), some (.ref a), some (.ref x), some (.int (nI (i + 6)))] [] h' (n * 23) (n * 1825)) : wp l G (mLaw nm) (lwZ G) 437 [some (.ref (gB G)), some (.ref a), some (.ref x), some (.int (nI i))] [] h (n * 23 + 23) (n * 1825 + 1825) := by
  refine wp_widen (rc' := n * 23 + (mR mX11_lead).cells) (rs' := n * 1825 + (mR mX11_lead).slots) (Nat.add_le_add_left (Nat.le_of_ble_eq_true rfl) _) (Nat.add_le_add_left (Nat.le_of_ble_eq_true rfl) _) ?_
  refine wp_aload_n (pc := 437) dL_law_437 rfl rfl ?_
  refine wp_aload_n (pc := 438) dL_law_438 rfl rfl ?_
  refine wp_iload_n (pc := 439) dL_law_439 rfl rfl ?_
  refine wp_iconst (pc := 440) (v := 1) dL_law_440 (by decide) ?_
  refine wp_iadd (pc := 441) dL_law_441 ?_
  refine wp_sld (pc := 442) (i := i + 1) dL_law_442 hb (lw_ix 1 rfl hi (by decide) hL) ?_
  refine lw_callC (pc := 443) (rc := n * 23) (rs := n * 1825) [_] dL_law_443 rfl cv_L_59_12 rfl ⟨(Nat.le_of_ble_eq_true rfl), (Nat.le_of_ble_eq_true rfl)⟩ (Nat.le_of_ble_eq_true rfl) hJ (K_lead l G _ hJ.2.2) (fun h1 hM hK => ?_)
  refine wp_aload_n (pc := 446) dL_law_446 rfl rfl ?_
  refine wp_aload_n (pc := 447) dL_law_447 rfl rfl ?_
  refine wp_iload_n (pc := 448) dL_law_448 rfl rfl ?_
  refine wp_iconst (pc := 449) (v := 1) dL_law_449 (by decide) ?_
  refine wp_iadd (pc := 450) dL_law_450 ?_
  refine wp_sld (pc := 451) (i := i + 1) dL_law_451 hb (lw_ix 1 rfl hi (by decide) hL) ?_
  refine lw_callR (pc := 452) [_] dL_law_452 rfl cv_L_62_13 rfl ⟨(Nat.le_of_ble_eq_true rfl), (Nat.le_of_ble_eq_true rfl)⟩ (Nat.le_of_ble_eq_true rfl) ⟨rfl, rfl⟩ (R_lead l G x am _  hJ.2.2.1) hM hK hJ (fun h2 hJ2 => ?_)
  refine wp_icmp_eq (pc := 455) (tgt := 1267) dL_law_455 (by decide) (fun _ => ?_) (fun z => absurd rfl z)
  exact lw_next hJ2 ih
theorem lw_c9 (hb : gB G < (gH G).size) (hL : gL G ≤ 3073) (hi : i + 6 ≤ gL G) (hJ : JJ G a x am M h) (ih : ∀ (M' : MS) (h' : Hp), JJ G a x am M' h' → wp l G (mLaw nm) (lwZ G) 28 [some (.ref (gB G)), some (.ref a), some (.ref x), some (.int (nI (i + 6)))] [] h' (n * 23) (n * 1825)) : wp l G (mLaw nm) (lwZ G) 460 [some (.ref (gB G)), some (.ref a), some (.ref x), some (.int (nI i))] [] h (n * 23 + 23) (n * 1825 + 1825) := by
  refine wp_widen (rc' := n * 23 + (mR mX11_ask).cells) (rs' := n * 1825 + (mR mX11_ask).slots) (Nat.add_le_add_left (Nat.le_of_ble_eq_true rfl) _) (Nat.add_le_add_left (Nat.le_of_ble_eq_true rfl) _) ?_
  refine wp_aload_n (pc := 460) dL_law_460 rfl rfl ?_
  refine wp_aload_n (pc := 461) dL_law_461 rfl rfl ?_
  refine wp_iload_n (pc := 462) dL_law_462 rfl rfl ?_
  refine wp_iconst (pc := 463) (v := 1) dL_law_463 (by decide) ?_
  refine wp_iadd (pc := 464) dL_law_464 ?_
  refine wp_sld (pc := 465) (i := i + 1) dL_law_465 hb (lw_ix 1 rfl hi (by decide) hL) ?_
  refine wp_aload_n (pc := 466) dL_law_466 rfl rfl ?_
  refine wp_iload_n (pc := 467) dL_law_467 rfl rfl ?_
  refine wp_iconst (pc := 468) (v := 2) dL_law_468 (by decide) ?_
  refine wp_iadd (pc := 469) dL_law_469 ?_
  refine wp_sld (pc := 470) (i := i + 2) dL_law_470 hb (lw_ix 2 rfl hi (by decide) hL) ?_
  refine wp_aload_n (pc := 471) dL_law_471 rfl rfl ?_
  refine wp_iload_n (pc := 472) dL_law_472 rfl rfl ?_
  refine wp_iconst (pc := 473) (v := 3) dL_law_473 (by decide) ?_
  refine wp_iadd (pc := 474) dL_law_474 ?_
  refine wp_sld (pc := 475) (i := i + 3) dL_law_475 hb (lw_ix 3 rfl hi (by decide) hL) ?_
  refine wp_aload_n (pc := 476) dL_law_476 rfl rfl ?_
  refine wp_iload_n (pc := 477) dL_law_477 rfl rfl ?_
  refine wp_iconst (pc := 478) (v := 4) dL_law_478 (by decide) ?_
  refine wp_iadd (pc := 479) dL_law_479 ?_
  refine wp_sld (pc := 480) (i := i + 4) dL_law_480 hb (lw_ix 4 rfl hi (by decide) hL) ?_
  refine wp_aload_n (pc := 481) dL_law_481 rfl rfl ?_
  refine wp_iload_n (pc := 482) dL_law_482 rfl rfl ?_
  refine wp_iconst (pc := 483) (v := 5) dL_law_483 (by decide) ?_
  refine wp_iadd (pc := 484) dL_law_484 ?_
  refine wp_sld (pc := 485) (i := i + 5) dL_law_485 hb (lw_ix 5 rfl hi (by decide) hL) ?_
  refine lw_callC (pc := 486) (rc := n * 23) (rs := n * 1825) [_, _, _, _, _] dL_law_486 rfl cv_L_63_12 rfl ⟨(Nat.le_of_ble_eq_true rfl), (Nat.le_of_ble_eq_true rfl)⟩ (Nat.le_of_ble_eq_true rfl) hJ (K_ask l G _ _ _ _ _ hJ.2.2) (fun h1 hM hK => ?_)
  refine wp_aload_n (pc := 489) dL_law_489 rfl rfl ?_
  refine wp_aload_n (pc := 490) dL_law_490 rfl rfl ?_
  refine wp_iload_n (pc := 491) dL_law_491 rfl rfl ?_
  refine wp_iconst (pc := 492) (v := 1) dL_law_492 (by decide) ?_
  refine wp_iadd (pc := 493) dL_law_493 ?_
  refine wp_sld (pc := 494) (i := i + 1) dL_law_494 hb (lw_ix 1 rfl hi (by decide) hL) ?_
  refine wp_aload_n (pc := 495) dL_law_495 rfl rfl ?_
  refine wp_iload_n (pc := 496) dL_law_496 rfl rfl ?_
  refine wp_iconst (pc := 497) (v := 2) dL_law_497 (by decide) ?_
  refine wp_iadd (pc := 498) dL_law_498 ?_
  refine wp_sld (pc := 499) (i := i + 2) dL_law_499 hb (lw_ix 2 rfl hi (by decide) hL) ?_
  refine wp_aload_n (pc := 500) dL_law_500 rfl rfl ?_
  refine wp_iload_n (pc := 501) dL_law_501 rfl rfl ?_
  refine wp_iconst (pc := 502) (v := 3) dL_law_502 (by decide) ?_
  refine wp_iadd (pc := 503) dL_law_503 ?_
  refine wp_sld (pc := 504) (i := i + 3) dL_law_504 hb (lw_ix 3 rfl hi (by decide) hL) ?_
  refine wp_aload_n (pc := 505) dL_law_505 rfl rfl ?_
  refine wp_iload_n (pc := 506) dL_law_506 rfl rfl ?_
  refine wp_iconst (pc := 507) (v := 4) dL_law_507 (by decide) ?_
  refine wp_iadd (pc := 508) dL_law_508 ?_
  refine wp_sld (pc := 509) (i := i + 4) dL_law_509 hb (lw_ix 4 rfl hi (by decide) hL) ?_
  refine wp_aload_n (pc := 510) dL_law_510 rfl rfl ?_
  refine wp_iload_n (pc := 511) dL_law_511 rfl rfl ?_
  refine wp_iconst (pc := 512) (v := 5) dL_law_512 (by decide) ?_
  refine wp_iadd (pc := 513) dL_law_513 ?_
  refine wp_sld (pc := 514) (i := i + 5) dL_law_514 hb (lw_ix 5 rfl hi (by decide) hL) ?_
  refine lw_callR (pc := 515) [_, _, _, _, _] dL_law_515 rfl cv_L_67_13 rfl ⟨(Nat.le_of_ble_eq_true rfl), (Nat.le_of_ble_eq_true rfl)⟩ (Nat.le_of_ble_eq_true rfl) ⟨rfl, rfl⟩ (R_ask l G x am _ _ _ _ _  hJ.2.2.1) hM hK hJ (fun h2 hJ2 => ?_)
  refine wp_icmp_eq (pc := 518) (tgt := 1267) dL_law_518 (by decide) (fun _ => ?_) (fun z => absurd rfl z)
  exact lw_next hJ2 ih
theorem lw_c10 (hb : gB G < (gH G).size) (hL : gL G ≤ 3073) (hi : i + 6 ≤ gL G) (hJ : JJ G a x am M h) (ih : ∀ (M' : MS) (h' : Hp), JJ G a x am M' h' → wp l G (mLaw nm) (lwZ G) 28 [some (.ref (gB G)), some (.ref a), some (.ref x), some (.int (nI (i + 6)))] [] h' (n * 23) (n * 1825)) : wp l G (mLaw nm) (lwZ G) 523 [some (.ref (gB G)), some (.ref a), some (.ref x), some (.int (nI i))] [] h (n * 23 + 23) (n * 1825 + 1825) := by
  refine wp_widen (rc' := n * 23 + (mR mX11_renew).cells) (rs' := n * 1825 + (mR mX11_renew).slots) (Nat.add_le_add_left (Nat.le_of_ble_eq_true rfl) _) (Nat.add_le_add_left (Nat.le_of_ble_eq_true rfl) _) ?_
  refine wp_aload_n (pc := 523) dL_law_523 rfl rfl ?_
  refine wp_aload_n (pc := 524) dL_law_524 rfl rfl ?_
  refine wp_iload_n (pc := 525) dL_law_525 rfl rfl ?_
  refine wp_iconst (pc := 526) (v := 1) dL_law_526 (by decide) ?_
  refine wp_iadd (pc := 527) dL_law_527 ?_
  refine wp_sld (pc := 528) (i := i + 1) dL_law_528 hb (lw_ix 1 rfl hi (by decide) hL) ?_
  refine wp_aload_n (pc := 529) dL_law_529 rfl rfl ?_
  refine wp_iload_n (pc := 530) dL_law_530 rfl rfl ?_
  refine wp_iconst (pc := 531) (v := 2) dL_law_531 (by decide) ?_
  refine wp_iadd (pc := 532) dL_law_532 ?_
  refine wp_sld (pc := 533) (i := i + 2) dL_law_533 hb (lw_ix 2 rfl hi (by decide) hL) ?_
  refine wp_aload_n (pc := 534) dL_law_534 rfl rfl ?_
  refine wp_iload_n (pc := 535) dL_law_535 rfl rfl ?_
  refine wp_iconst (pc := 536) (v := 3) dL_law_536 (by decide) ?_
  refine wp_iadd (pc := 537) dL_law_537 ?_
  refine wp_sld (pc := 538) (i := i + 3) dL_law_538 hb (lw_ix 3 rfl hi (by decide) hL) ?_
  refine lw_callC (pc := 539) (rc := n * 23) (rs := n * 1825) [_, _, _] dL_law_539 rfl cv_L_68_12 rfl ⟨(Nat.le_of_ble_eq_true rfl), (Nat.le_of_ble_eq_true rfl)⟩ (Nat.le_of_ble_eq_true rfl) hJ (K_renew l G _ _ _ hJ.2.2) (fun h1 hM hK => ?_)
  refine wp_aload_n (pc := 542) dL_law_542 rfl rfl ?_
  refine wp_aload_n (pc := 543) dL_law_543 rfl rfl ?_
  refine wp_iload_n (pc := 544) dL_law_544 rfl rfl ?_
  refine wp_iconst (pc := 545) (v := 1) dL_law_545 (by decide) ?_
  refine wp_iadd (pc := 546) dL_law_546 ?_
  refine wp_sld (pc := 547) (i := i + 1) dL_law_547 hb (lw_ix 1 rfl hi (by decide) hL) ?_
  refine wp_aload_n (pc := 548) dL_law_548 rfl rfl ?_
  refine wp_iload_n (pc := 549) dL_law_549 rfl rfl ?_
  refine wp_iconst (pc := 550) (v := 2) dL_law_550 (by decide) ?_
  refine wp_iadd (pc := 551) dL_law_551 ?_
  refine wp_sld (pc := 552) (i := i + 2) dL_law_552 hb (lw_ix 2 rfl hi (by decide) hL) ?_
  refine wp_aload_n (pc := 553) dL_law_553 rfl rfl ?_
  refine wp_iload_n (pc := 554) dL_law_554 rfl rfl ?_
  refine wp_iconst (pc := 555) (v := 3) dL_law_555 (by decide) ?_
  refine wp_iadd (pc := 556) dL_law_556 ?_
  refine wp_sld (pc := 557) (i := i + 3) dL_law_557 hb (lw_ix 3 rfl hi (by decide) hL) ?_
  refine lw_callR (pc := 558) [_, _, _] dL_law_558 rfl cv_L_71_13 rfl ⟨(Nat.le_of_ble_eq_true rfl), (Nat.le_of_ble_eq_true rfl)⟩ (Nat.le_of_ble_eq_true rfl) ⟨rfl, rfl⟩ (R_renew l G x am _ _ _  hJ.2.2.1) hM hK hJ (fun h2 hJ2 => ?_)
  refine wp_icmp_eq (pc := 561) (tgt := 1267) dL_law_561 (by decide) (fun _ => ?_) (fun z => absurd rfl z)
  exact lw_next hJ2 ih
theorem lw_c11 (hb : gB G < (gH G).size) (hL : gL G ≤ 3073) (hi : i + 6 ≤ gL G) (hJ : JJ G a x am M h) (ih : ∀ (M' : MS) (h' : Hp), JJ G a x am M' h' → wp l G (mLaw nm) (lwZ G) 28 [some (.ref (gB G)), some (.ref a), some (.ref x), some (.int (nI (i + 6)))] [] h' (n * 23) (n * 1825)) : wp l G (mLaw nm) (lwZ G) 566 [some (.ref (gB G)), some (.ref a), some (.ref x), some (.int (nI i))] [] h (n * 23 + 23) (n * 1825 + 1825) := by
  refine wp_widen (rc' := n * 23 + (mR mX11_end).cells) (rs' := n * 1825 + (mR mX11_end).slots) (Nat.add_le_add_left (Nat.le_of_ble_eq_true rfl) _) (Nat.add_le_add_left (Nat.le_of_ble_eq_true rfl) _) ?_
  refine wp_aload_n (pc := 566) dL_law_566 rfl rfl ?_
  refine wp_aload_n (pc := 567) dL_law_567 rfl rfl ?_
  refine wp_iload_n (pc := 568) dL_law_568 rfl rfl ?_
  refine wp_iconst (pc := 569) (v := 1) dL_law_569 (by decide) ?_
  refine wp_iadd (pc := 570) dL_law_570 ?_
  refine wp_sld (pc := 571) (i := i + 1) dL_law_571 hb (lw_ix 1 rfl hi (by decide) hL) ?_
  refine wp_aload_n (pc := 572) dL_law_572 rfl rfl ?_
  refine wp_iload_n (pc := 573) dL_law_573 rfl rfl ?_
  refine wp_iconst (pc := 574) (v := 2) dL_law_574 (by decide) ?_
  refine wp_iadd (pc := 575) dL_law_575 ?_
  refine wp_sld (pc := 576) (i := i + 2) dL_law_576 hb (lw_ix 2 rfl hi (by decide) hL) ?_
  refine wp_aload_n (pc := 577) dL_law_577 rfl rfl ?_
  refine wp_iload_n (pc := 578) dL_law_578 rfl rfl ?_
  refine wp_iconst (pc := 579) (v := 3) dL_law_579 (by decide) ?_
  refine wp_iadd (pc := 580) dL_law_580 ?_
  refine wp_sld (pc := 581) (i := i + 3) dL_law_581 hb (lw_ix 3 rfl hi (by decide) hL) ?_
  refine lw_callC (pc := 582) (rc := n * 23) (rs := n * 1825) [_, _, _] dL_law_582 rfl cv_L_72_12 rfl ⟨(Nat.le_of_ble_eq_true rfl), (Nat.le_of_ble_eq_true rfl)⟩ (Nat.le_of_ble_eq_true rfl) hJ (K_end l G _ _ _ hJ.2.2) (fun h1 hM hK => ?_)
  refine wp_aload_n (pc := 585) dL_law_585 rfl rfl ?_
  refine wp_aload_n (pc := 586) dL_law_586 rfl rfl ?_
  refine wp_iload_n (pc := 587) dL_law_587 rfl rfl ?_
  refine wp_iconst (pc := 588) (v := 1) dL_law_588 (by decide) ?_
  refine wp_iadd (pc := 589) dL_law_589 ?_
  refine wp_sld (pc := 590) (i := i + 1) dL_law_590 hb (lw_ix 1 rfl hi (by decide) hL) ?_
  refine wp_aload_n (pc := 591) dL_law_591 rfl rfl ?_
  refine wp_iload_n (pc := 592) dL_law_592 rfl rfl ?_
  refine wp_iconst (pc := 593) (v := 2) dL_law_593 (by decide) ?_
  refine wp_iadd (pc := 594) dL_law_594 ?_
  refine wp_sld (pc := 595) (i := i + 2) dL_law_595 hb (lw_ix 2 rfl hi (by decide) hL) ?_
  refine wp_aload_n (pc := 596) dL_law_596 rfl rfl ?_
  refine wp_iload_n (pc := 597) dL_law_597 rfl rfl ?_
  refine wp_iconst (pc := 598) (v := 3) dL_law_598 (by decide) ?_
  refine wp_iadd (pc := 599) dL_law_599 ?_
  refine wp_sld (pc := 600) (i := i + 3) dL_law_600 hb (lw_ix 3 rfl hi (by decide) hL) ?_
  refine lw_callR (pc := 601) [_, _, _] dL_law_601 rfl cv_L_75_13 rfl ⟨(Nat.le_of_ble_eq_true rfl), (Nat.le_of_ble_eq_true rfl)⟩ (Nat.le_of_ble_eq_true rfl) ⟨rfl, rfl⟩ (R_end l G x am _ _ _  hJ.2.2.1) hM hK hJ (fun h2 hJ2 => ?_)
  refine wp_icmp_eq (pc := 604) (tgt := 1267) dL_law_604 (by decide) (fun _ => ?_) (fun z => absurd rfl z)
  exact lw_next hJ2 ih
theorem lw_c12 (hb : gB G < (gH G).size) (hL : gL G ≤ 3073) (hi : i + 6 ≤ gL G) (hJ : JJ G a x am M h) (ih : ∀ (M' : MS) (h' : Hp), JJ G a x am M' h' → wp l G (mLaw nm) (lwZ G) 28 [some (.ref (gB G)), some (.ref a), some (.ref x), some (.int (nI (i + 6)))] [] h' (n * 23) (n * 1825)) : wp l G (mLaw nm) (lwZ G) 609 [some (.ref (gB G)), some (.ref a), some (.ref x), some (.int (nI i))] [] h (n * 23 + 23) (n * 1825 + 1825) := by
  refine wp_widen (rc' := n * 23 + (mR mX11_rise).cells) (rs' := n * 1825 + (mR mX11_rise).slots) (Nat.add_le_add_left (Nat.le_of_ble_eq_true rfl) _) (Nat.add_le_add_left (Nat.le_of_ble_eq_true rfl) _) ?_
  refine wp_aload_n (pc := 609) dL_law_609 rfl rfl ?_
  refine wp_aload_n (pc := 610) dL_law_610 rfl rfl ?_
  refine wp_iload_n (pc := 611) dL_law_611 rfl rfl ?_
  refine wp_iconst (pc := 612) (v := 1) dL_law_612 (by decide) ?_
  refine wp_iadd (pc := 613) dL_law_613 ?_
  refine wp_sld (pc := 614) (i := i + 1) dL_law_614 hb (lw_ix 1 rfl hi (by decide) hL) ?_
  refine wp_aload_n (pc := 615) dL_law_615 rfl rfl ?_
  refine wp_iload_n (pc := 616) dL_law_616 rfl rfl ?_
  refine wp_iconst (pc := 617) (v := 2) dL_law_617 (by decide) ?_
  refine wp_iadd (pc := 618) dL_law_618 ?_
  refine wp_sld (pc := 619) (i := i + 2) dL_law_619 hb (lw_ix 2 rfl hi (by decide) hL) ?_
  refine wp_aload_n (pc := 620) dL_law_620 rfl rfl ?_
  refine wp_iload_n (pc := 621) dL_law_621 rfl rfl ?_
  refine wp_iconst (pc := 622) (v := 3) dL_law_622 (by decide) ?_
  refine wp_iadd (pc := 623) dL_law_623 ?_
  refine wp_sld (pc := 624) (i := i + 3) dL_law_624 hb (lw_ix 3 rfl hi (by decide) hL) ?_
  refine lw_callC (pc := 625) (rc := n * 23) (rs := n * 1825) [_, _, _] dL_law_625 rfl cv_L_76_12 rfl ⟨(Nat.le_of_ble_eq_true rfl), (Nat.le_of_ble_eq_true rfl)⟩ (Nat.le_of_ble_eq_true rfl) hJ (K_rise l G _ _ _ hJ.2.2) (fun h1 hM hK => ?_)
  refine wp_aload_n (pc := 628) dL_law_628 rfl rfl ?_
  refine wp_aload_n (pc := 629) dL_law_629 rfl rfl ?_
  refine wp_iload_n (pc := 630) dL_law_630 rfl rfl ?_
  refine wp_iconst (pc := 631) (v := 1) dL_law_631 (by decide) ?_
  refine wp_iadd (pc := 632) dL_law_632 ?_
  refine wp_sld (pc := 633) (i := i + 1) dL_law_633 hb (lw_ix 1 rfl hi (by decide) hL) ?_
  refine wp_aload_n (pc := 634) dL_law_634 rfl rfl ?_
  refine wp_iload_n (pc := 635) dL_law_635 rfl rfl ?_
  refine wp_iconst (pc := 636) (v := 2) dL_law_636 (by decide) ?_
  refine wp_iadd (pc := 637) dL_law_637 ?_
  refine wp_sld (pc := 638) (i := i + 2) dL_law_638 hb (lw_ix 2 rfl hi (by decide) hL) ?_
  refine wp_aload_n (pc := 639) dL_law_639 rfl rfl ?_
  refine wp_iload_n (pc := 640) dL_law_640 rfl rfl ?_
  refine wp_iconst (pc := 641) (v := 3) dL_law_641 (by decide) ?_
  refine wp_iadd (pc := 642) dL_law_642 ?_
  refine wp_sld (pc := 643) (i := i + 3) dL_law_643 hb (lw_ix 3 rfl hi (by decide) hL) ?_
  refine lw_callR (pc := 644) [_, _, _] dL_law_644 rfl cv_L_79_13 rfl ⟨(Nat.le_of_ble_eq_true rfl), (Nat.le_of_ble_eq_true rfl)⟩ (Nat.le_of_ble_eq_true rfl) ⟨rfl, rfl⟩ (R_rise l G x am _ _ _  hJ.2.2.1) hM hK hJ (fun h2 hJ2 => ?_)
  refine wp_icmp_eq (pc := 647) (tgt := 1267) dL_law_647 (by decide) (fun _ => ?_) (fun z => absurd rfl z)
  exact lw_next hJ2 ih
theorem lw_c13 (hb : gB G < (gH G).size) (hL : gL G ≤ 3073) (hi : i + 6 ≤ gL G) (hJ : JJ G a x am M h) (ih : ∀ (M' : MS) (h' : Hp), JJ G a x am M' h' → wp l G (mLaw nm) (lwZ G) 28 [some (.ref (gB G)), some (.ref a), some (.ref x), some (.int (nI (i + 6)))] [] h' (n * 23) (n * 1825)) : wp l G (mLaw nm) (lwZ G) 652 [some (.ref (gB G)), some (.ref a), some (.ref x), some (.int (nI i))] [] h (n * 23 + 23) (n * 1825 + 1825) := by
  refine wp_widen (rc' := n * 23 + (mR mX11_deliver).cells) (rs' := n * 1825 + (mR mX11_deliver).slots) (Nat.add_le_add_left (Nat.le_of_ble_eq_true rfl) _) (Nat.add_le_add_left (Nat.le_of_ble_eq_true rfl) _) ?_
  refine wp_aload_n (pc := 652) dL_law_652 rfl rfl ?_
  refine wp_aload_n (pc := 653) dL_law_653 rfl rfl ?_
  refine wp_iload_n (pc := 654) dL_law_654 rfl rfl ?_
  refine wp_iconst (pc := 655) (v := 1) dL_law_655 (by decide) ?_
  refine wp_iadd (pc := 656) dL_law_656 ?_
  refine wp_sld (pc := 657) (i := i + 1) dL_law_657 hb (lw_ix 1 rfl hi (by decide) hL) ?_
  refine lw_callC (pc := 658) (rc := n * 23) (rs := n * 1825) [_] dL_law_658 rfl cv_L_80_12 rfl ⟨(Nat.le_of_ble_eq_true rfl), (Nat.le_of_ble_eq_true rfl)⟩ (Nat.le_of_ble_eq_true rfl) hJ (K_deliver l G _ hJ.2.2) (fun h1 hM hK => ?_)
  refine wp_aload_n (pc := 661) dL_law_661 rfl rfl ?_
  refine wp_aload_n (pc := 662) dL_law_662 rfl rfl ?_
  refine wp_iload_n (pc := 663) dL_law_663 rfl rfl ?_
  refine wp_iconst (pc := 664) (v := 1) dL_law_664 (by decide) ?_
  refine wp_iadd (pc := 665) dL_law_665 ?_
  refine wp_sld (pc := 666) (i := i + 1) dL_law_666 hb (lw_ix 1 rfl hi (by decide) hL) ?_
  refine lw_callR (pc := 667) [_] dL_law_667 rfl cv_L_83_13 rfl ⟨(Nat.le_of_ble_eq_true rfl), (Nat.le_of_ble_eq_true rfl)⟩ (Nat.le_of_ble_eq_true rfl) ⟨rfl, rfl⟩ (R_deliver l G x am _  hJ.2.2.1) hM hK hJ (fun h2 hJ2 => ?_)
  refine wp_icmp_eq (pc := 670) (tgt := 1267) dL_law_670 (by decide) (fun _ => ?_) (fun z => absurd rfl z)
  exact lw_next hJ2 ih
theorem lw_c14 (hb : gB G < (gH G).size) (hL : gL G ≤ 3073) (hi : i + 6 ≤ gL G) (hJ : JJ G a x am M h) (ih : ∀ (M' : MS) (h' : Hp), JJ G a x am M' h' → wp l G (mLaw nm) (lwZ G) 28 [some (.ref (gB G)), some (.ref a), some (.ref x), some (.int (nI (i + 6)))] [] h' (n * 23) (n * 1825)) : wp l G (mLaw nm) (lwZ G) 675 [some (.ref (gB G)), some (.ref a), some (.ref x), some (.int (nI i))] [] h (n * 23 + 23) (n * 1825 + 1825) := by
  refine wp_widen (rc' := n * 23 + (mR mX11_lose).cells) (rs' := n * 1825 + (mR mX11_lose).slots) (Nat.add_le_add_left (Nat.le_of_ble_eq_true rfl) _) (Nat.add_le_add_left (Nat.le_of_ble_eq_true rfl) _) ?_
  refine wp_aload_n (pc := 675) dL_law_675 rfl rfl ?_
  refine wp_aload_n (pc := 676) dL_law_676 rfl rfl ?_
  refine wp_iload_n (pc := 677) dL_law_677 rfl rfl ?_
  refine wp_iconst (pc := 678) (v := 1) dL_law_678 (by decide) ?_
  refine wp_iadd (pc := 679) dL_law_679 ?_
  refine wp_sld (pc := 680) (i := i + 1) dL_law_680 hb (lw_ix 1 rfl hi (by decide) hL) ?_
  refine lw_callC (pc := 681) (rc := n * 23) (rs := n * 1825) [_] dL_law_681 rfl cv_L_84_12 rfl ⟨(Nat.le_of_ble_eq_true rfl), (Nat.le_of_ble_eq_true rfl)⟩ (Nat.le_of_ble_eq_true rfl) hJ (K_lose l G _ hJ.2.2) (fun h1 hM hK => ?_)
  refine wp_aload_n (pc := 684) dL_law_684 rfl rfl ?_
  refine wp_aload_n (pc := 685) dL_law_685 rfl rfl ?_
  refine wp_iload_n (pc := 686) dL_law_686 rfl rfl ?_
  refine wp_iconst (pc := 687) (v := 1) dL_law_687 (by decide) ?_
  refine wp_iadd (pc := 688) dL_law_688 ?_
  refine wp_sld (pc := 689) (i := i + 1) dL_law_689 hb (lw_ix 1 rfl hi (by decide) hL) ?_
  refine lw_callR (pc := 690) [_] dL_law_690 rfl cv_L_87_13 rfl ⟨(Nat.le_of_ble_eq_true rfl), (Nat.le_of_ble_eq_true rfl)⟩ (Nat.le_of_ble_eq_true rfl) ⟨rfl, rfl⟩ (R_lose l G x am _  hJ.2.2.1) hM hK hJ (fun h2 hJ2 => ?_)
  refine wp_icmp_eq (pc := 693) (tgt := 1267) dL_law_693 (by decide) (fun _ => ?_) (fun z => absurd rfl z)
  exact lw_next hJ2 ih
theorem lw_c15 (hb : gB G < (gH G).size) (hL : gL G ≤ 3073) (hi : i + 6 ≤ gL G) (hJ : JJ G a x am M h) (ih : ∀ (M' : MS) (h' : Hp), JJ G a x am M' h' → wp l G (mLaw nm) (lwZ G) 28 [some (.ref (gB G)), some (.ref a), some (.ref x), some (.int (nI (i + 6)))] [] h' (n * 23) (n * 1825)) : wp l G (mLaw nm) (lwZ G) 698 [some (.ref (gB G)), some (.ref a), some (.ref x), some (.int (nI i))] [] h (n * 23 + 23) (n * 1825 + 1825) := by
  refine wp_widen (rc' := n * 23 + (mR mX11_twice).cells) (rs' := n * 1825 + (mR mX11_twice).slots) (Nat.add_le_add_left (Nat.le_of_ble_eq_true rfl) _) (Nat.add_le_add_left (Nat.le_of_ble_eq_true rfl) _) ?_
  refine wp_aload_n (pc := 698) dL_law_698 rfl rfl ?_
  refine wp_aload_n (pc := 699) dL_law_699 rfl rfl ?_
  refine wp_iload_n (pc := 700) dL_law_700 rfl rfl ?_
  refine wp_iconst (pc := 701) (v := 1) dL_law_701 (by decide) ?_
  refine wp_iadd (pc := 702) dL_law_702 ?_
  refine wp_sld (pc := 703) (i := i + 1) dL_law_703 hb (lw_ix 1 rfl hi (by decide) hL) ?_
  refine lw_callC (pc := 704) (rc := n * 23) (rs := n * 1825) [_] dL_law_704 rfl cv_L_88_12 rfl ⟨(Nat.le_of_ble_eq_true rfl), (Nat.le_of_ble_eq_true rfl)⟩ (Nat.le_of_ble_eq_true rfl) hJ (K_twice l G _ hJ.2.2) (fun h1 hM hK => ?_)
  refine wp_aload_n (pc := 707) dL_law_707 rfl rfl ?_
  refine wp_aload_n (pc := 708) dL_law_708 rfl rfl ?_
  refine wp_iload_n (pc := 709) dL_law_709 rfl rfl ?_
  refine wp_iconst (pc := 710) (v := 1) dL_law_710 (by decide) ?_
  refine wp_iadd (pc := 711) dL_law_711 ?_
  refine wp_sld (pc := 712) (i := i + 1) dL_law_712 hb (lw_ix 1 rfl hi (by decide) hL) ?_
  refine lw_callR (pc := 713) [_] dL_law_713 rfl cv_L_91_13 rfl ⟨(Nat.le_of_ble_eq_true rfl), (Nat.le_of_ble_eq_true rfl)⟩ (Nat.le_of_ble_eq_true rfl) ⟨rfl, rfl⟩ (R_twice l G x am _  hJ.2.2.1) hM hK hJ (fun h2 hJ2 => ?_)
  refine wp_icmp_eq (pc := 716) (tgt := 1267) dL_law_716 (by decide) (fun _ => ?_) (fun z => absurd rfl z)
  exact lw_next hJ2 ih
theorem lw_c16 (hb : gB G < (gH G).size) (hL : gL G ≤ 3073) (hi : i + 6 ≤ gL G) (hJ : JJ G a x am M h) (ih : ∀ (M' : MS) (h' : Hp), JJ G a x am M' h' → wp l G (mLaw nm) (lwZ G) 28 [some (.ref (gB G)), some (.ref a), some (.ref x), some (.int (nI (i + 6)))] [] h' (n * 23) (n * 1825)) : wp l G (mLaw nm) (lwZ G) 721 [some (.ref (gB G)), some (.ref a), some (.ref x), some (.int (nI i))] [] h (n * 23 + 23) (n * 1825 + 1825) := by
  refine wp_widen (rc' := n * 23 + (mR mX11_letter).cells) (rs' := n * 1825 + (mR mX11_letter).slots) (Nat.add_le_add_left (Nat.le_of_ble_eq_true rfl) _) (Nat.add_le_add_left (Nat.le_of_ble_eq_true rfl) _) ?_
  refine wp_aload_n (pc := 721) dL_law_721 rfl rfl ?_
  refine wp_aload_n (pc := 722) dL_law_722 rfl rfl ?_
  refine wp_iload_n (pc := 723) dL_law_723 rfl rfl ?_
  refine wp_iconst (pc := 724) (v := 1) dL_law_724 (by decide) ?_
  refine wp_iadd (pc := 725) dL_law_725 ?_
  refine wp_sld (pc := 726) (i := i + 1) dL_law_726 hb (lw_ix 1 rfl hi (by decide) hL) ?_
  refine wp_aload_n (pc := 727) dL_law_727 rfl rfl ?_
  refine wp_iload_n (pc := 728) dL_law_728 rfl rfl ?_
  refine wp_iconst (pc := 729) (v := 2) dL_law_729 (by decide) ?_
  refine wp_iadd (pc := 730) dL_law_730 ?_
  refine wp_sld (pc := 731) (i := i + 2) dL_law_731 hb (lw_ix 2 rfl hi (by decide) hL) ?_
  refine lw_callC (pc := 732) (rc := n * 23) (rs := n * 1825) [_, _] dL_law_732 rfl cv_L_92_12 rfl ⟨(Nat.le_of_ble_eq_true rfl), (Nat.le_of_ble_eq_true rfl)⟩ (Nat.le_of_ble_eq_true rfl) hJ (K_letter l G _ _ hJ.2.2) (fun h1 hM hK => ?_)
  refine wp_aload_n (pc := 735) dL_law_735 rfl rfl ?_
  refine wp_aload_n (pc := 736) dL_law_736 rfl rfl ?_
  refine wp_iload_n (pc := 737) dL_law_737 rfl rfl ?_
  refine wp_iconst (pc := 738) (v := 1) dL_law_738 (by decide) ?_
  refine wp_iadd (pc := 739) dL_law_739 ?_
  refine wp_sld (pc := 740) (i := i + 1) dL_law_740 hb (lw_ix 1 rfl hi (by decide) hL) ?_
  refine wp_aload_n (pc := 741) dL_law_741 rfl rfl ?_
  refine wp_iload_n (pc := 742) dL_law_742 rfl rfl ?_
  refine wp_iconst (pc := 743) (v := 2) dL_law_743 (by decide) ?_
  refine wp_iadd (pc := 744) dL_law_744 ?_
  refine wp_sld (pc := 745) (i := i + 2) dL_law_745 hb (lw_ix 2 rfl hi (by decide) hL) ?_
  refine lw_callR (pc := 746) [_, _] dL_law_746 rfl cv_L_95_13 rfl ⟨(Nat.le_of_ble_eq_true rfl), (Nat.le_of_ble_eq_true rfl)⟩ (Nat.le_of_ble_eq_true rfl) ⟨rfl, rfl⟩ (R_letter l G x am _ _  hJ.2.2.1) hM hK hJ (fun h2 hJ2 => ?_)
  refine wp_icmp_eq (pc := 749) (tgt := 1267) dL_law_749 (by decide) (fun _ => ?_) (fun z => absurd rfl z)
  exact lw_next hJ2 ih
theorem lw_c17 (hb : gB G < (gH G).size) (hL : gL G ≤ 3073) (hi : i + 6 ≤ gL G) (hJ : JJ G a x am M h) (ih : ∀ (M' : MS) (h' : Hp), JJ G a x am M' h' → wp l G (mLaw nm) (lwZ G) 28 [some (.ref (gB G)), some (.ref a), some (.ref x), some (.int (nI (i + 6)))] [] h' (n * 23) (n * 1825)) : wp l G (mLaw nm) (lwZ G) 754 [some (.ref (gB G)), some (.ref a), some (.ref x), some (.int (nI i))] [] h (n * 23 + 23) (n * 1825 + 1825) := by
  refine wp_widen (rc' := n * 23 + (mR mX11_wrote).cells) (rs' := n * 1825 + (mR mX11_wrote).slots) (Nat.add_le_add_left (Nat.le_of_ble_eq_true rfl) _) (Nat.add_le_add_left (Nat.le_of_ble_eq_true rfl) _) ?_
  refine wp_aload_n (pc := 754) dL_law_754 rfl rfl ?_
  refine wp_aload_n (pc := 755) dL_law_755 rfl rfl ?_
  refine wp_iload_n (pc := 756) dL_law_756 rfl rfl ?_
  refine wp_iconst (pc := 757) (v := 1) dL_law_757 (by decide) ?_
  refine wp_iadd (pc := 758) dL_law_758 ?_
  refine wp_sld (pc := 759) (i := i + 1) dL_law_759 hb (lw_ix 1 rfl hi (by decide) hL) ?_
  refine wp_aload_n (pc := 760) dL_law_760 rfl rfl ?_
  refine wp_iload_n (pc := 761) dL_law_761 rfl rfl ?_
  refine wp_iconst (pc := 762) (v := 2) dL_law_762 (by decide) ?_
  refine wp_iadd (pc := 763) dL_law_763 ?_
  refine wp_sld (pc := 764) (i := i + 2) dL_law_764 hb (lw_ix 2 rfl hi (by decide) hL) ?_
  refine lw_callC (pc := 765) (rc := n * 23) (rs := n * 1825) [_, _] dL_law_765 rfl cv_L_96_12 rfl ⟨(Nat.le_of_ble_eq_true rfl), (Nat.le_of_ble_eq_true rfl)⟩ (Nat.le_of_ble_eq_true rfl) hJ (K_wrote l G _ _ hJ.2.2) (fun h1 hM hK => ?_)
  refine wp_aload_n (pc := 768) dL_law_768 rfl rfl ?_
  refine wp_aload_n (pc := 769) dL_law_769 rfl rfl ?_
  refine wp_iload_n (pc := 770) dL_law_770 rfl rfl ?_
  refine wp_iconst (pc := 771) (v := 1) dL_law_771 (by decide) ?_
  refine wp_iadd (pc := 772) dL_law_772 ?_
  refine wp_sld (pc := 773) (i := i + 1) dL_law_773 hb (lw_ix 1 rfl hi (by decide) hL) ?_
  refine wp_aload_n (pc := 774) dL_law_774 rfl rfl ?_
  refine wp_iload_n (pc := 775) dL_law_775 rfl rfl ?_
  refine wp_iconst (pc := 776) (v := 2) dL_law_776 (by decide) ?_
  refine wp_iadd (pc := 777) dL_law_777 ?_
  refine wp_sld (pc := 778) (i := i + 2) dL_law_778 hb (lw_ix 2 rfl hi (by decide) hL) ?_
  refine lw_callR (pc := 779) [_, _] dL_law_779 rfl cv_L_99_13 rfl ⟨(Nat.le_of_ble_eq_true rfl), (Nat.le_of_ble_eq_true rfl)⟩ (Nat.le_of_ble_eq_true rfl) ⟨rfl, rfl⟩ (R_wrote l G x am _ _  hJ.2.2.1) hM hK hJ (fun h2 hJ2 => ?_)
  refine wp_lcmp_eq (pc := 782) (tgt := 1267) dL_law_782 dL_law_783 (by decide) (fun _ => ?_) (fun z => absurd rfl z)
  exact lw_next hJ2 ih
theorem lw_c18 (hb : gB G < (gH G).size) (hL : gL G ≤ 3073) (hi : i + 6 ≤ gL G) (hJ : JJ G a x am M h) (ih : ∀ (M' : MS) (h' : Hp), JJ G a x am M' h' → wp l G (mLaw nm) (lwZ G) 28 [some (.ref (gB G)), some (.ref a), some (.ref x), some (.int (nI (i + 6)))] [] h' (n * 23) (n * 1825)) : wp l G (mLaw nm) (lwZ G) 788 [some (.ref (gB G)), some (.ref a), some (.ref x), some (.int (nI i))] [] h (n * 23 + 23) (n * 1825 + 1825) := by
  refine wp_widen (rc' := n * 23 + (mR mX11_look).cells) (rs' := n * 1825 + (mR mX11_look).slots) (Nat.add_le_add_left (Nat.le_of_ble_eq_true rfl) _) (Nat.add_le_add_left (Nat.le_of_ble_eq_true rfl) _) ?_
  refine wp_aload_n (pc := 788) dL_law_788 rfl rfl ?_
  refine wp_aload_n (pc := 789) dL_law_789 rfl rfl ?_
  refine wp_iload_n (pc := 790) dL_law_790 rfl rfl ?_
  refine wp_iconst (pc := 791) (v := 1) dL_law_791 (by decide) ?_
  refine wp_iadd (pc := 792) dL_law_792 ?_
  refine wp_sld (pc := 793) (i := i + 1) dL_law_793 hb (lw_ix 1 rfl hi (by decide) hL) ?_
  refine lw_callC (pc := 794) (rc := n * 23) (rs := n * 1825) [_] dL_law_794 rfl cv_L_100_12 rfl ⟨(Nat.le_of_ble_eq_true rfl), (Nat.le_of_ble_eq_true rfl)⟩ (Nat.le_of_ble_eq_true rfl) hJ (K_look l G _ hJ.2.2) (fun h1 hM hK => ?_)
  refine wp_aload_n (pc := 797) dL_law_797 rfl rfl ?_
  refine wp_aload_n (pc := 798) dL_law_798 rfl rfl ?_
  refine wp_iload_n (pc := 799) dL_law_799 rfl rfl ?_
  refine wp_iconst (pc := 800) (v := 1) dL_law_800 (by decide) ?_
  refine wp_iadd (pc := 801) dL_law_801 ?_
  refine wp_sld (pc := 802) (i := i + 1) dL_law_802 hb (lw_ix 1 rfl hi (by decide) hL) ?_
  refine lw_callR (pc := 803) [_] dL_law_803 rfl cv_L_103_13 rfl ⟨(Nat.le_of_ble_eq_true rfl), (Nat.le_of_ble_eq_true rfl)⟩ (Nat.le_of_ble_eq_true rfl) ⟨rfl, rfl⟩ (R_look l G x am _  hJ.2.2.1) hM hK hJ (fun h2 hJ2 => ?_)
  refine wp_icmp_eq (pc := 806) (tgt := 1267) dL_law_806 (by decide) (fun _ => ?_) (fun z => absurd rfl z)
  exact lw_next hJ2 ih
theorem lw_c19 (hb : gB G < (gH G).size) (hL : gL G ≤ 3073) (hi : i + 6 ≤ gL G) (hJ : JJ G a x am M h) (ih : ∀ (M' : MS) (h' : Hp), JJ G a x am M' h' → wp l G (mLaw nm) (lwZ G) 28 [some (.ref (gB G)), some (.ref a), some (.ref x), some (.int (nI (i + 6)))] [] h' (n * 23) (n * 1825)) : wp l G (mLaw nm) (lwZ G) 811 [some (.ref (gB G)), some (.ref a), some (.ref x), some (.int (nI i))] [] h (n * 23 + 23) (n * 1825 + 1825) := by
  refine wp_widen (rc' := n * 23 + (mR mX11_grant).cells) (rs' := n * 1825 + (mR mX11_grant).slots) (Nat.add_le_add_left (Nat.le_of_ble_eq_true rfl) _) (Nat.add_le_add_left (Nat.le_of_ble_eq_true rfl) _) ?_
  refine wp_aload_n (pc := 811) dL_law_811 rfl rfl ?_
  refine wp_aload_n (pc := 812) dL_law_812 rfl rfl ?_
  refine wp_iload_n (pc := 813) dL_law_813 rfl rfl ?_
  refine wp_iconst (pc := 814) (v := 1) dL_law_814 (by decide) ?_
  refine wp_iadd (pc := 815) dL_law_815 ?_
  refine wp_sld (pc := 816) (i := i + 1) dL_law_816 hb (lw_ix 1 rfl hi (by decide) hL) ?_
  refine wp_aload_n (pc := 817) dL_law_817 rfl rfl ?_
  refine wp_iload_n (pc := 818) dL_law_818 rfl rfl ?_
  refine wp_iconst (pc := 819) (v := 2) dL_law_819 (by decide) ?_
  refine wp_iadd (pc := 820) dL_law_820 ?_
  refine wp_sld (pc := 821) (i := i + 2) dL_law_821 hb (lw_ix 2 rfl hi (by decide) hL) ?_
  refine wp_aload_n (pc := 822) dL_law_822 rfl rfl ?_
  refine wp_iload_n (pc := 823) dL_law_823 rfl rfl ?_
  refine wp_iconst (pc := 824) (v := 3) dL_law_824 (by decide) ?_
  refine wp_iadd (pc := 825) dL_law_825 ?_
  refine wp_sld (pc := 826) (i := i + 3) dL_law_826 hb (lw_ix 3 rfl hi (by decide) hL) ?_
  refine lw_callC (pc := 827) (rc := n * 23) (rs := n * 1825) [_, _, _] dL_law_827 rfl cv_L_104_12 rfl ⟨(Nat.le_of_ble_eq_true rfl), (Nat.le_of_ble_eq_true rfl)⟩ (Nat.le_of_ble_eq_true rfl) hJ (K_grant l G _ _ _ hJ.2.2) (fun h1 hM hK => ?_)
  refine wp_aload_n (pc := 830) dL_law_830 rfl rfl ?_
  refine wp_aload_n (pc := 831) dL_law_831 rfl rfl ?_
  refine wp_iload_n (pc := 832) dL_law_832 rfl rfl ?_
  refine wp_iconst (pc := 833) (v := 1) dL_law_833 (by decide) ?_
  refine wp_iadd (pc := 834) dL_law_834 ?_
  refine wp_sld (pc := 835) (i := i + 1) dL_law_835 hb (lw_ix 1 rfl hi (by decide) hL) ?_
  refine wp_aload_n (pc := 836) dL_law_836 rfl rfl ?_
  refine wp_iload_n (pc := 837) dL_law_837 rfl rfl ?_
  refine wp_iconst (pc := 838) (v := 2) dL_law_838 (by decide) ?_
  refine wp_iadd (pc := 839) dL_law_839 ?_
  refine wp_sld (pc := 840) (i := i + 2) dL_law_840 hb (lw_ix 2 rfl hi (by decide) hL) ?_
  refine wp_aload_n (pc := 841) dL_law_841 rfl rfl ?_
  refine wp_iload_n (pc := 842) dL_law_842 rfl rfl ?_
  refine wp_iconst (pc := 843) (v := 3) dL_law_843 (by decide) ?_
  refine wp_iadd (pc := 844) dL_law_844 ?_
  refine wp_sld (pc := 845) (i := i + 3) dL_law_845 hb (lw_ix 3 rfl hi (by decide) hL) ?_
  refine lw_callR (pc := 846) [_, _, _] dL_law_846 rfl cv_L_107_13 rfl ⟨(Nat.le_of_ble_eq_true rfl), (Nat.le_of_ble_eq_true rfl)⟩ (Nat.le_of_ble_eq_true rfl) ⟨rfl, rfl⟩ (R_grant l G x am _ _ _  hJ.2.2.1) hM hK hJ (fun h2 hJ2 => ?_)
  refine wp_icmp_eq (pc := 849) (tgt := 1267) dL_law_849 (by decide) (fun _ => ?_) (fun z => absurd rfl z)
  exact lw_next hJ2 ih
theorem lw_c20 (hb : gB G < (gH G).size) (hL : gL G ≤ 3073) (hi : i + 6 ≤ gL G) (hJ : JJ G a x am M h) (ih : ∀ (M' : MS) (h' : Hp), JJ G a x am M' h' → wp l G (mLaw nm) (lwZ G) 28 [some (.ref (gB G)), some (.ref a), some (.ref x), some (.int (nI (i + 6)))] [] h' (n * 23) (n * 1825)) : wp l G (mLaw nm) (lwZ G) 854 [some (.ref (gB G)), some (.ref a), some (.ref x), some (.int (nI i))] [] h (n * 23 + 23) (n * 1825 + 1825) := by
  refine wp_widen (rc' := n * 23 + (mR mX11_ends).cells) (rs' := n * 1825 + (mR mX11_ends).slots) (Nat.add_le_add_left (Nat.le_of_ble_eq_true rfl) _) (Nat.add_le_add_left (Nat.le_of_ble_eq_true rfl) _) ?_
  refine wp_aload_n (pc := 854) dL_law_854 rfl rfl ?_
  refine wp_aload_n (pc := 855) dL_law_855 rfl rfl ?_
  refine wp_iload_n (pc := 856) dL_law_856 rfl rfl ?_
  refine wp_iconst (pc := 857) (v := 1) dL_law_857 (by decide) ?_
  refine wp_iadd (pc := 858) dL_law_858 ?_
  refine wp_sld (pc := 859) (i := i + 1) dL_law_859 hb (lw_ix 1 rfl hi (by decide) hL) ?_
  refine wp_aload_n (pc := 860) dL_law_860 rfl rfl ?_
  refine wp_iload_n (pc := 861) dL_law_861 rfl rfl ?_
  refine wp_iconst (pc := 862) (v := 2) dL_law_862 (by decide) ?_
  refine wp_iadd (pc := 863) dL_law_863 ?_
  refine wp_sld (pc := 864) (i := i + 2) dL_law_864 hb (lw_ix 2 rfl hi (by decide) hL) ?_
  refine wp_aload_n (pc := 865) dL_law_865 rfl rfl ?_
  refine wp_iload_n (pc := 866) dL_law_866 rfl rfl ?_
  refine wp_iconst (pc := 867) (v := 3) dL_law_867 (by decide) ?_
  refine wp_iadd (pc := 868) dL_law_868 ?_
  refine wp_sld (pc := 869) (i := i + 3) dL_law_869 hb (lw_ix 3 rfl hi (by decide) hL) ?_
  refine lw_callC (pc := 870) (rc := n * 23) (rs := n * 1825) [_, _, _] dL_law_870 rfl cv_L_108_12 rfl ⟨(Nat.le_of_ble_eq_true rfl), (Nat.le_of_ble_eq_true rfl)⟩ (Nat.le_of_ble_eq_true rfl) hJ (K_ends l G _ _ _ hJ.2.2) (fun h1 hM hK => ?_)
  refine wp_aload_n (pc := 873) dL_law_873 rfl rfl ?_
  refine wp_aload_n (pc := 874) dL_law_874 rfl rfl ?_
  refine wp_iload_n (pc := 875) dL_law_875 rfl rfl ?_
  refine wp_iconst (pc := 876) (v := 1) dL_law_876 (by decide) ?_
  refine wp_iadd (pc := 877) dL_law_877 ?_
  refine wp_sld (pc := 878) (i := i + 1) dL_law_878 hb (lw_ix 1 rfl hi (by decide) hL) ?_
  refine wp_aload_n (pc := 879) dL_law_879 rfl rfl ?_
  refine wp_iload_n (pc := 880) dL_law_880 rfl rfl ?_
  refine wp_iconst (pc := 881) (v := 2) dL_law_881 (by decide) ?_
  refine wp_iadd (pc := 882) dL_law_882 ?_
  refine wp_sld (pc := 883) (i := i + 2) dL_law_883 hb (lw_ix 2 rfl hi (by decide) hL) ?_
  refine wp_aload_n (pc := 884) dL_law_884 rfl rfl ?_
  refine wp_iload_n (pc := 885) dL_law_885 rfl rfl ?_
  refine wp_iconst (pc := 886) (v := 3) dL_law_886 (by decide) ?_
  refine wp_iadd (pc := 887) dL_law_887 ?_
  refine wp_sld (pc := 888) (i := i + 3) dL_law_888 hb (lw_ix 3 rfl hi (by decide) hL) ?_
  refine lw_callR (pc := 889) [_, _, _] dL_law_889 rfl cv_L_112_13 rfl ⟨(Nat.le_of_ble_eq_true rfl), (Nat.le_of_ble_eq_true rfl)⟩ (Nat.le_of_ble_eq_true rfl) ⟨rfl, rfl⟩ (R_ends l G x am _ _ _  hJ.2.2.1) hM hK hJ (fun h2 hJ2 => ?_)
  refine wp_lcmp_eq (pc := 892) (tgt := 1267) dL_law_892 dL_law_893 (by decide) (fun _ => ?_) (fun z => absurd rfl z)
  exact lw_next hJ2 ih
theorem lw_c21 (hb : gB G < (gH G).size) (hL : gL G ≤ 3073) (hi : i + 6 ≤ gL G) (hJ : JJ G a x am M h) (ih : ∀ (M' : MS) (h' : Hp), JJ G a x am M' h' → wp l G (mLaw nm) (lwZ G) 28 [some (.ref (gB G)), some (.ref a), some (.ref x), some (.int (nI (i + 6)))] [] h' (n * 23) (n * 1825)) : wp l G (mLaw nm) (lwZ G) 898 [some (.ref (gB G)), some (.ref a), some (.ref x), some (.int (nI i))] [] h (n * 23 + 23) (n * 1825 + 1825) := by
  refine wp_widen (rc' := n * 23 + (mR mX11_told).cells) (rs' := n * 1825 + (mR mX11_told).slots) (Nat.add_le_add_left (Nat.le_of_ble_eq_true rfl) _) (Nat.add_le_add_left (Nat.le_of_ble_eq_true rfl) _) ?_
  refine wp_aload_n (pc := 898) dL_law_898 rfl rfl ?_
  refine wp_aload_n (pc := 899) dL_law_899 rfl rfl ?_
  refine wp_iload_n (pc := 900) dL_law_900 rfl rfl ?_
  refine wp_iconst (pc := 901) (v := 1) dL_law_901 (by decide) ?_
  refine wp_iadd (pc := 902) dL_law_902 ?_
  refine wp_sld (pc := 903) (i := i + 1) dL_law_903 hb (lw_ix 1 rfl hi (by decide) hL) ?_
  refine wp_aload_n (pc := 904) dL_law_904 rfl rfl ?_
  refine wp_iload_n (pc := 905) dL_law_905 rfl rfl ?_
  refine wp_iconst (pc := 906) (v := 2) dL_law_906 (by decide) ?_
  refine wp_iadd (pc := 907) dL_law_907 ?_
  refine wp_sld (pc := 908) (i := i + 2) dL_law_908 hb (lw_ix 2 rfl hi (by decide) hL) ?_
  refine lw_callC (pc := 909) (rc := n * 23) (rs := n * 1825) [_, _] dL_law_909 rfl cv_L_113_12 rfl ⟨(Nat.le_of_ble_eq_true rfl), (Nat.le_of_ble_eq_true rfl)⟩ (Nat.le_of_ble_eq_true rfl) hJ (K_told l G _ _ hJ.2.2) (fun h1 hM hK => ?_)
  refine wp_aload_n (pc := 912) dL_law_912 rfl rfl ?_
  refine wp_aload_n (pc := 913) dL_law_913 rfl rfl ?_
  refine wp_iload_n (pc := 914) dL_law_914 rfl rfl ?_
  refine wp_iconst (pc := 915) (v := 1) dL_law_915 (by decide) ?_
  refine wp_iadd (pc := 916) dL_law_916 ?_
  refine wp_sld (pc := 917) (i := i + 1) dL_law_917 hb (lw_ix 1 rfl hi (by decide) hL) ?_
  refine wp_aload_n (pc := 918) dL_law_918 rfl rfl ?_
  refine wp_iload_n (pc := 919) dL_law_919 rfl rfl ?_
  refine wp_iconst (pc := 920) (v := 2) dL_law_920 (by decide) ?_
  refine wp_iadd (pc := 921) dL_law_921 ?_
  refine wp_sld (pc := 922) (i := i + 2) dL_law_922 hb (lw_ix 2 rfl hi (by decide) hL) ?_
  refine lw_callR (pc := 923) [_, _] dL_law_923 rfl cv_L_116_13 rfl ⟨(Nat.le_of_ble_eq_true rfl), (Nat.le_of_ble_eq_true rfl)⟩ (Nat.le_of_ble_eq_true rfl) ⟨rfl, rfl⟩ (R_told l G x am _ _  hJ.2.2.1) hM hK hJ (fun h2 hJ2 => ?_)
  refine wp_icmp_eq (pc := 926) (tgt := 1267) dL_law_926 (by decide) (fun _ => ?_) (fun z => absurd rfl z)
  exact lw_next hJ2 ih
theorem lw_c22 (hb : gB G < (gH G).size) (hL : gL G ≤ 3073) (hi : i + 6 ≤ gL G) (hJ : JJ G a x am M h) (ih : ∀ (M' : MS) (h' : Hp), JJ G a x am M' h' → wp l G (mLaw nm) (lwZ G) 28 [some (.ref (gB G)), some (.ref a), some (.ref x), some (.int (nI (i + 6)))] [] h' (n * 23) (n * 1825)) : wp l G (mLaw nm) (lwZ G) 931 [some (.ref (gB G)), some (.ref a), some (.ref x), some (.int (nI i))] [] h (n * 23 + 23) (n * 1825 + 1825) := by
  refine wp_widen (rc' := n * 23 + (mR mX11_holds).cells) (rs' := n * 1825 + (mR mX11_holds).slots) (Nat.add_le_add_left (Nat.le_of_ble_eq_true rfl) _) (Nat.add_le_add_left (Nat.le_of_ble_eq_true rfl) _) ?_
  refine wp_aload_n (pc := 931) dL_law_931 rfl rfl ?_
  refine wp_aload_n (pc := 932) dL_law_932 rfl rfl ?_
  refine wp_iload_n (pc := 933) dL_law_933 rfl rfl ?_
  refine wp_iconst (pc := 934) (v := 1) dL_law_934 (by decide) ?_
  refine wp_iadd (pc := 935) dL_law_935 ?_
  refine wp_sld (pc := 936) (i := i + 1) dL_law_936 hb (lw_ix 1 rfl hi (by decide) hL) ?_
  refine wp_aload_n (pc := 937) dL_law_937 rfl rfl ?_
  refine wp_iload_n (pc := 938) dL_law_938 rfl rfl ?_
  refine wp_iconst (pc := 939) (v := 2) dL_law_939 (by decide) ?_
  refine wp_iadd (pc := 940) dL_law_940 ?_
  refine wp_sld (pc := 941) (i := i + 2) dL_law_941 hb (lw_ix 2 rfl hi (by decide) hL) ?_
  refine wp_aload_n (pc := 942) dL_law_942 rfl rfl ?_
  refine wp_iload_n (pc := 943) dL_law_943 rfl rfl ?_
  refine wp_iconst (pc := 944) (v := 3) dL_law_944 (by decide) ?_
  refine wp_iadd (pc := 945) dL_law_945 ?_
  refine wp_sld (pc := 946) (i := i + 3) dL_law_946 hb (lw_ix 3 rfl hi (by decide) hL) ?_
  refine lw_callC (pc := 947) (rc := n * 23) (rs := n * 1825) [_, _, _] dL_law_947 rfl cv_L_117_12 rfl ⟨(Nat.le_of_ble_eq_true rfl), (Nat.le_of_ble_eq_true rfl)⟩ (Nat.le_of_ble_eq_true rfl) hJ (K_holds l G _ _ _ hJ.2.2) (fun h1 hM hK => ?_)
  refine wp_aload_n (pc := 950) dL_law_950 rfl rfl ?_
  refine wp_aload_n (pc := 951) dL_law_951 rfl rfl ?_
  refine wp_iload_n (pc := 952) dL_law_952 rfl rfl ?_
  refine wp_iconst (pc := 953) (v := 1) dL_law_953 (by decide) ?_
  refine wp_iadd (pc := 954) dL_law_954 ?_
  refine wp_sld (pc := 955) (i := i + 1) dL_law_955 hb (lw_ix 1 rfl hi (by decide) hL) ?_
  refine wp_aload_n (pc := 956) dL_law_956 rfl rfl ?_
  refine wp_iload_n (pc := 957) dL_law_957 rfl rfl ?_
  refine wp_iconst (pc := 958) (v := 2) dL_law_958 (by decide) ?_
  refine wp_iadd (pc := 959) dL_law_959 ?_
  refine wp_sld (pc := 960) (i := i + 2) dL_law_960 hb (lw_ix 2 rfl hi (by decide) hL) ?_
  refine wp_aload_n (pc := 961) dL_law_961 rfl rfl ?_
  refine wp_iload_n (pc := 962) dL_law_962 rfl rfl ?_
  refine wp_iconst (pc := 963) (v := 3) dL_law_963 (by decide) ?_
  refine wp_iadd (pc := 964) dL_law_964 ?_
  refine wp_sld (pc := 965) (i := i + 3) dL_law_965 hb (lw_ix 3 rfl hi (by decide) hL) ?_
  refine lw_callR (pc := 966) [_, _, _] dL_law_966 rfl cv_L_120_13 rfl ⟨(Nat.le_of_ble_eq_true rfl), (Nat.le_of_ble_eq_true rfl)⟩ (Nat.le_of_ble_eq_true rfl) ⟨rfl, rfl⟩ (R_holds l G x am _ _ _  hJ.2.2.1) hM hK hJ (fun h2 hJ2 => ?_)
  refine wp_icmp_eq (pc := 969) (tgt := 1267) dL_law_969 (by decide) (fun _ => ?_) (fun z => absurd rfl z)
  exact lw_next hJ2 ih
theorem lw_c23 (hb : gB G < (gH G).size) (hL : gL G ≤ 3073) (hi : i + 6 ≤ gL G) (hJ : JJ G a x am M h) (ih : ∀ (M' : MS) (h' : Hp), JJ G a x am M' h' → wp l G (mLaw nm) (lwZ G) 28 [some (.ref (gB G)), some (.ref a), some (.ref x), some (.int (nI (i + 6)))] [] h' (n * 23) (n * 1825)) : wp l G (mLaw nm) (lwZ G) 974 [some (.ref (gB G)), some (.ref a), some (.ref x), some (.int (nI i))] [] h (n * 23 + 23) (n * 1825 + 1825) := by
  refine wp_widen (rc' := n * 23 + (mR mX11_held).cells) (rs' := n * 1825 + (mR mX11_held).slots) (Nat.add_le_add_left (Nat.le_of_ble_eq_true rfl) _) (Nat.add_le_add_left (Nat.le_of_ble_eq_true rfl) _) ?_
  refine wp_aload_n (pc := 974) dL_law_974 rfl rfl ?_
  refine wp_aload_n (pc := 975) dL_law_975 rfl rfl ?_
  refine wp_iload_n (pc := 976) dL_law_976 rfl rfl ?_
  refine wp_iconst (pc := 977) (v := 1) dL_law_977 (by decide) ?_
  refine wp_iadd (pc := 978) dL_law_978 ?_
  refine wp_sld (pc := 979) (i := i + 1) dL_law_979 hb (lw_ix 1 rfl hi (by decide) hL) ?_
  refine wp_aload_n (pc := 980) dL_law_980 rfl rfl ?_
  refine wp_iload_n (pc := 981) dL_law_981 rfl rfl ?_
  refine wp_iconst (pc := 982) (v := 2) dL_law_982 (by decide) ?_
  refine wp_iadd (pc := 983) dL_law_983 ?_
  refine wp_sld (pc := 984) (i := i + 2) dL_law_984 hb (lw_ix 2 rfl hi (by decide) hL) ?_
  refine wp_aload_n (pc := 985) dL_law_985 rfl rfl ?_
  refine wp_iload_n (pc := 986) dL_law_986 rfl rfl ?_
  refine wp_iconst (pc := 987) (v := 3) dL_law_987 (by decide) ?_
  refine wp_iadd (pc := 988) dL_law_988 ?_
  refine wp_sld (pc := 989) (i := i + 3) dL_law_989 hb (lw_ix 3 rfl hi (by decide) hL) ?_
  refine lw_callC (pc := 990) (rc := n * 23) (rs := n * 1825) [_, _, _] dL_law_990 rfl cv_L_121_12 rfl ⟨(Nat.le_of_ble_eq_true rfl), (Nat.le_of_ble_eq_true rfl)⟩ (Nat.le_of_ble_eq_true rfl) hJ (K_held l G _ _ _ hJ.2.2) (fun h1 hM hK => ?_)
  refine wp_aload_n (pc := 993) dL_law_993 rfl rfl ?_
  refine wp_aload_n (pc := 994) dL_law_994 rfl rfl ?_
  refine wp_iload_n (pc := 995) dL_law_995 rfl rfl ?_
  refine wp_iconst (pc := 996) (v := 1) dL_law_996 (by decide) ?_
  refine wp_iadd (pc := 997) dL_law_997 ?_
  refine wp_sld (pc := 998) (i := i + 1) dL_law_998 hb (lw_ix 1 rfl hi (by decide) hL) ?_
  refine wp_aload_n (pc := 999) dL_law_999 rfl rfl ?_
  refine wp_iload_n (pc := 1000) dL_law_1000 rfl rfl ?_
  refine wp_iconst (pc := 1001) (v := 2) dL_law_1001 (by decide) ?_
  refine wp_iadd (pc := 1002) dL_law_1002 ?_
  refine wp_sld (pc := 1003) (i := i + 2) dL_law_1003 hb (lw_ix 2 rfl hi (by decide) hL) ?_
  refine wp_aload_n (pc := 1004) dL_law_1004 rfl rfl ?_
  refine wp_iload_n (pc := 1005) dL_law_1005 rfl rfl ?_
  refine wp_iconst (pc := 1006) (v := 3) dL_law_1006 (by decide) ?_
  refine wp_iadd (pc := 1007) dL_law_1007 ?_
  refine wp_sld (pc := 1008) (i := i + 3) dL_law_1008 hb (lw_ix 3 rfl hi (by decide) hL) ?_
  refine lw_callR (pc := 1009) [_, _, _] dL_law_1009 rfl cv_L_124_13 rfl ⟨(Nat.le_of_ble_eq_true rfl), (Nat.le_of_ble_eq_true rfl)⟩ (Nat.le_of_ble_eq_true rfl) ⟨rfl, rfl⟩ (R_held l G x am _ _ _  hJ.2.2.1) hM hK hJ (fun h2 hJ2 => ?_)
  refine wp_lcmp_eq (pc := 1012) (tgt := 1267) dL_law_1012 dL_law_1013 (by decide) (fun _ => ?_) (fun z => absurd rfl z)
  exact lw_next hJ2 ih
theorem lw_c24 (hb : gB G < (gH G).size) (hL : gL G ≤ 3073) (hi : i + 6 ≤ gL G) (hJ : JJ G a x am M h) (ih : ∀ (M' : MS) (h' : Hp), JJ G a x am M' h' → wp l G (mLaw nm) (lwZ G) 28 [some (.ref (gB G)), some (.ref a), some (.ref x), some (.int (nI (i + 6)))] [] h' (n * 23) (n * 1825)) : wp l G (mLaw nm) (lwZ G) 1018 [some (.ref (gB G)), some (.ref a), some (.ref x), some (.int (nI i))] [] h (n * 23 + 23) (n * 1825 + 1825) := by
  refine wp_widen (rc' := n * 23 + (mR mX11_write).cells) (rs' := n * 1825 + (mR mX11_write).slots) (Nat.add_le_add_left (Nat.le_of_ble_eq_true rfl) _) (Nat.add_le_add_left (Nat.le_of_ble_eq_true rfl) _) ?_
  refine wp_aload_n (pc := 1018) dL_law_1018 rfl rfl ?_
  refine wp_aload_n (pc := 1019) dL_law_1019 rfl rfl ?_
  refine wp_iload_n (pc := 1020) dL_law_1020 rfl rfl ?_
  refine wp_iconst (pc := 1021) (v := 1) dL_law_1021 (by decide) ?_
  refine wp_iadd (pc := 1022) dL_law_1022 ?_
  refine wp_sld (pc := 1023) (i := i + 1) dL_law_1023 hb (lw_ix 1 rfl hi (by decide) hL) ?_
  refine wp_aload_n (pc := 1024) dL_law_1024 rfl rfl ?_
  refine wp_iload_n (pc := 1025) dL_law_1025 rfl rfl ?_
  refine wp_iconst (pc := 1026) (v := 2) dL_law_1026 (by decide) ?_
  refine wp_iadd (pc := 1027) dL_law_1027 ?_
  refine wp_sld (pc := 1028) (i := i + 2) dL_law_1028 hb (lw_ix 2 rfl hi (by decide) hL) ?_
  refine wp_aload_n (pc := 1029) dL_law_1029 rfl rfl ?_
  refine wp_iload_n (pc := 1030) dL_law_1030 rfl rfl ?_
  refine wp_iconst (pc := 1031) (v := 3) dL_law_1031 (by decide) ?_
  refine wp_iadd (pc := 1032) dL_law_1032 ?_
  refine wp_sld (pc := 1033) (i := i + 3) dL_law_1033 hb (lw_ix 3 rfl hi (by decide) hL) ?_
  refine wp_aload_n (pc := 1034) dL_law_1034 rfl rfl ?_
  refine wp_iload_n (pc := 1035) dL_law_1035 rfl rfl ?_
  refine wp_iconst (pc := 1036) (v := 4) dL_law_1036 (by decide) ?_
  refine wp_iadd (pc := 1037) dL_law_1037 ?_
  refine wp_sld (pc := 1038) (i := i + 4) dL_law_1038 hb (lw_ix 4 rfl hi (by decide) hL) ?_
  refine wp_i2l (pc := 1039) dL_law_1039 ?_
  refine wp_bipush (pc := 1040) (v := 32) dL_law_1040 (by decide) ?_
  refine wp_lshl (pc := 1042) dL_law_1042 rfl ?_
  refine wp_aload_n (pc := 1043) dL_law_1043 rfl rfl ?_
  refine wp_iload_n (pc := 1044) dL_law_1044 rfl rfl ?_
  refine wp_iconst (pc := 1045) (v := 5) dL_law_1045 (by decide) ?_
  refine wp_iadd (pc := 1046) dL_law_1046 ?_
  refine wp_sld (pc := 1047) (i := i + 5) dL_law_1047 hb (lw_ix 5 rfl hi (by decide) hL) ?_
  refine wp_i2l (pc := 1048) dL_law_1048 ?_
  refine wp_ldc2_w (pc := 1049) dL_law_1049 w7_77 ?_
  refine wp_land (pc := 1052) dL_law_1052 ?_
  refine wp_lor (pc := 1053) dL_law_1053 ?_
  refine lw_callC (pc := 1054) (rc := n * 23) (rs := n * 1825) [_, _, _, _] dL_law_1054 rfl cv_L_127_12 rfl ⟨(Nat.le_of_ble_eq_true rfl), (Nat.le_of_ble_eq_true rfl)⟩ (Nat.le_of_ble_eq_true rfl) hJ (K_write l G _ _ _ _ hJ.2.2) (fun h1 hM hK => ?_)
  refine wp_aload_n (pc := 1057) dL_law_1057 rfl rfl ?_
  refine wp_aload_n (pc := 1058) dL_law_1058 rfl rfl ?_
  refine wp_iload_n (pc := 1059) dL_law_1059 rfl rfl ?_
  refine wp_iconst (pc := 1060) (v := 1) dL_law_1060 (by decide) ?_
  refine wp_iadd (pc := 1061) dL_law_1061 ?_
  refine wp_sld (pc := 1062) (i := i + 1) dL_law_1062 hb (lw_ix 1 rfl hi (by decide) hL) ?_
  refine wp_aload_n (pc := 1063) dL_law_1063 rfl rfl ?_
  refine wp_iload_n (pc := 1064) dL_law_1064 rfl rfl ?_
  refine wp_iconst (pc := 1065) (v := 2) dL_law_1065 (by decide) ?_
  refine wp_iadd (pc := 1066) dL_law_1066 ?_
  refine wp_sld (pc := 1067) (i := i + 2) dL_law_1067 hb (lw_ix 2 rfl hi (by decide) hL) ?_
  refine wp_aload_n (pc := 1068) dL_law_1068 rfl rfl ?_
  refine wp_iload_n (pc := 1069) dL_law_1069 rfl rfl ?_
  refine wp_iconst (pc := 1070) (v := 3) dL_law_1070 (by decide) ?_
  refine wp_iadd (pc := 1071) dL_law_1071 ?_
  refine wp_sld (pc := 1072) (i := i + 3) dL_law_1072 hb (lw_ix 3 rfl hi (by decide) hL) ?_
  refine wp_aload_n (pc := 1073) dL_law_1073 rfl rfl ?_
  refine wp_iload_n (pc := 1074) dL_law_1074 rfl rfl ?_
  refine wp_iconst (pc := 1075) (v := 4) dL_law_1075 (by decide) ?_
  refine wp_iadd (pc := 1076) dL_law_1076 ?_
  refine wp_sld (pc := 1077) (i := i + 4) dL_law_1077 hb (lw_ix 4 rfl hi (by decide) hL) ?_
  refine wp_i2l (pc := 1078) dL_law_1078 ?_
  refine wp_bipush (pc := 1079) (v := 32) dL_law_1079 (by decide) ?_
  refine wp_lshl (pc := 1081) dL_law_1081 rfl ?_
  refine wp_aload_n (pc := 1082) dL_law_1082 rfl rfl ?_
  refine wp_iload_n (pc := 1083) dL_law_1083 rfl rfl ?_
  refine wp_iconst (pc := 1084) (v := 5) dL_law_1084 (by decide) ?_
  refine wp_iadd (pc := 1085) dL_law_1085 ?_
  refine wp_sld (pc := 1086) (i := i + 5) dL_law_1086 hb (lw_ix 5 rfl hi (by decide) hL) ?_
  refine wp_i2l (pc := 1087) dL_law_1087 ?_
  refine wp_ldc2_w (pc := 1088) dL_law_1088 w7_77 ?_
  refine wp_land (pc := 1091) dL_law_1091 ?_
  refine wp_lor (pc := 1092) dL_law_1092 ?_
  refine lw_callR (pc := 1093) [_, _, _, _] dL_law_1093 rfl cv_L_131_13 rfl ⟨(Nat.le_of_ble_eq_true rfl), (Nat.le_of_ble_eq_true rfl)⟩ (Nat.le_of_ble_eq_true rfl) ⟨rfl, rfl⟩ (R_write l G x am _ _ _ _  hJ.2.2.1) hM hK hJ (fun h2 hJ2 => ?_)
  refine wp_icmp_eq (pc := 1096) (tgt := 1267) dL_law_1096 (by decide) (fun _ => ?_) (fun z => absurd rfl z)
  exact lw_next hJ2 ih
theorem lw_c25 (hb : gB G < (gH G).size) (hL : gL G ≤ 3073) (hi : i + 6 ≤ gL G) (hJ : JJ G a x am M h) (ih : ∀ (M' : MS) (h' : Hp), JJ G a x am M' h' → wp l G (mLaw nm) (lwZ G) 28 [some (.ref (gB G)), some (.ref a), some (.ref x), some (.int (nI (i + 6)))] [] h' (n * 23) (n * 1825)) : wp l G (mLaw nm) (lwZ G) 1101 [some (.ref (gB G)), some (.ref a), some (.ref x), some (.int (nI i))] [] h (n * 23 + 23) (n * 1825 + 1825) := by
  refine wp_widen (rc' := n * 23 + (mR mX11_stored).cells) (rs' := n * 1825 + (mR mX11_stored).slots) (Nat.add_le_add_left (Nat.le_of_ble_eq_true rfl) _) (Nat.add_le_add_left (Nat.le_of_ble_eq_true rfl) _) ?_
  refine wp_aload_n (pc := 1101) dL_law_1101 rfl rfl ?_
  refine wp_aload_n (pc := 1102) dL_law_1102 rfl rfl ?_
  refine wp_iload_n (pc := 1103) dL_law_1103 rfl rfl ?_
  refine wp_iconst (pc := 1104) (v := 1) dL_law_1104 (by decide) ?_
  refine wp_iadd (pc := 1105) dL_law_1105 ?_
  refine wp_sld (pc := 1106) (i := i + 1) dL_law_1106 hb (lw_ix 1 rfl hi (by decide) hL) ?_
  refine wp_aload_n (pc := 1107) dL_law_1107 rfl rfl ?_
  refine wp_iload_n (pc := 1108) dL_law_1108 rfl rfl ?_
  refine wp_iconst (pc := 1109) (v := 2) dL_law_1109 (by decide) ?_
  refine wp_iadd (pc := 1110) dL_law_1110 ?_
  refine wp_sld (pc := 1111) (i := i + 2) dL_law_1111 hb (lw_ix 2 rfl hi (by decide) hL) ?_
  refine wp_aload_n (pc := 1112) dL_law_1112 rfl rfl ?_
  refine wp_iload_n (pc := 1113) dL_law_1113 rfl rfl ?_
  refine wp_iconst (pc := 1114) (v := 3) dL_law_1114 (by decide) ?_
  refine wp_iadd (pc := 1115) dL_law_1115 ?_
  refine wp_sld (pc := 1116) (i := i + 3) dL_law_1116 hb (lw_ix 3 rfl hi (by decide) hL) ?_
  refine lw_callC (pc := 1117) (rc := n * 23) (rs := n * 1825) [_, _, _] dL_law_1117 rfl cv_L_132_12 rfl ⟨(Nat.le_of_ble_eq_true rfl), (Nat.le_of_ble_eq_true rfl)⟩ (Nat.le_of_ble_eq_true rfl) hJ (K_stored l G _ _ _ hJ.2.2) (fun h1 hM hK => ?_)
  refine wp_aload_n (pc := 1120) dL_law_1120 rfl rfl ?_
  refine wp_aload_n (pc := 1121) dL_law_1121 rfl rfl ?_
  refine wp_iload_n (pc := 1122) dL_law_1122 rfl rfl ?_
  refine wp_iconst (pc := 1123) (v := 1) dL_law_1123 (by decide) ?_
  refine wp_iadd (pc := 1124) dL_law_1124 ?_
  refine wp_sld (pc := 1125) (i := i + 1) dL_law_1125 hb (lw_ix 1 rfl hi (by decide) hL) ?_
  refine wp_aload_n (pc := 1126) dL_law_1126 rfl rfl ?_
  refine wp_iload_n (pc := 1127) dL_law_1127 rfl rfl ?_
  refine wp_iconst (pc := 1128) (v := 2) dL_law_1128 (by decide) ?_
  refine wp_iadd (pc := 1129) dL_law_1129 ?_
  refine wp_sld (pc := 1130) (i := i + 2) dL_law_1130 hb (lw_ix 2 rfl hi (by decide) hL) ?_
  refine wp_aload_n (pc := 1131) dL_law_1131 rfl rfl ?_
  refine wp_iload_n (pc := 1132) dL_law_1132 rfl rfl ?_
  refine wp_iconst (pc := 1133) (v := 3) dL_law_1133 (by decide) ?_
  refine wp_iadd (pc := 1134) dL_law_1134 ?_
  refine wp_sld (pc := 1135) (i := i + 3) dL_law_1135 hb (lw_ix 3 rfl hi (by decide) hL) ?_
  refine lw_callR (pc := 1136) [_, _, _] dL_law_1136 rfl cv_L_135_13 rfl ⟨(Nat.le_of_ble_eq_true rfl), (Nat.le_of_ble_eq_true rfl)⟩ (Nat.le_of_ble_eq_true rfl) ⟨rfl, rfl⟩ (R_stored l G x am _ _ _  hJ.2.2.1) hM hK hJ (fun h2 hJ2 => ?_)
  refine wp_lcmp_eq (pc := 1139) (tgt := 1267) dL_law_1139 dL_law_1140 (by decide) (fun _ => ?_) (fun z => absurd rfl z)
  exact lw_next hJ2 ih
theorem lw_c26 (hb : gB G < (gH G).size) (hL : gL G ≤ 3073) (hi : i + 6 ≤ gL G) (hJ : JJ G a x am M h) (ih : ∀ (M' : MS) (h' : Hp), JJ G a x am M' h' → wp l G (mLaw nm) (lwZ G) 28 [some (.ref (gB G)), some (.ref a), some (.ref x), some (.int (nI (i + 6)))] [] h' (n * 23) (n * 1825)) : wp l G (mLaw nm) (lwZ G) 1145 [some (.ref (gB G)), some (.ref a), some (.ref x), some (.int (nI i))] [] h (n * 23 + 23) (n * 1825 + 1825) := by
  refine wp_widen (rc' := n * 23 + (mR mX11_count).cells) (rs' := n * 1825 + (mR mX11_count).slots) (Nat.add_le_add_left (Nat.le_of_ble_eq_true rfl) _) (Nat.add_le_add_left (Nat.le_of_ble_eq_true rfl) _) ?_
  refine wp_aload_n (pc := 1145) dL_law_1145 rfl rfl ?_
  refine wp_aload_n (pc := 1146) dL_law_1146 rfl rfl ?_
  refine wp_iload_n (pc := 1147) dL_law_1147 rfl rfl ?_
  refine wp_iconst (pc := 1148) (v := 1) dL_law_1148 (by decide) ?_
  refine wp_iadd (pc := 1149) dL_law_1149 ?_
  refine wp_sld (pc := 1150) (i := i + 1) dL_law_1150 hb (lw_ix 1 rfl hi (by decide) hL) ?_
  refine lw_callC (pc := 1151) (rc := n * 23) (rs := n * 1825) [_] dL_law_1151 rfl cv_L_136_12 rfl ⟨(Nat.le_of_ble_eq_true rfl), (Nat.le_of_ble_eq_true rfl)⟩ (Nat.le_of_ble_eq_true rfl) hJ (K_count l G _ hJ.2.2) (fun h1 hM hK => ?_)
  refine wp_aload_n (pc := 1154) dL_law_1154 rfl rfl ?_
  refine wp_aload_n (pc := 1155) dL_law_1155 rfl rfl ?_
  refine wp_iload_n (pc := 1156) dL_law_1156 rfl rfl ?_
  refine wp_iconst (pc := 1157) (v := 1) dL_law_1157 (by decide) ?_
  refine wp_iadd (pc := 1158) dL_law_1158 ?_
  refine wp_sld (pc := 1159) (i := i + 1) dL_law_1159 hb (lw_ix 1 rfl hi (by decide) hL) ?_
  refine lw_callR (pc := 1160) [_] dL_law_1160 rfl cv_L_139_13 rfl ⟨(Nat.le_of_ble_eq_true rfl), (Nat.le_of_ble_eq_true rfl)⟩ (Nat.le_of_ble_eq_true rfl) ⟨rfl, rfl⟩ (R_count l G x am _  hJ.2.2.1) hM hK hJ (fun h2 hJ2 => ?_)
  refine wp_icmp_eq (pc := 1163) (tgt := 1267) dL_law_1163 (by decide) (fun _ => ?_) (fun z => absurd rfl z)
  exact lw_next hJ2 ih
theorem lw_c27 (hb : gB G < (gH G).size) (hL : gL G ≤ 3073) (hi : i + 6 ≤ gL G) (hJ : JJ G a x am M h) (ih : ∀ (M' : MS) (h' : Hp), JJ G a x am M' h' → wp l G (mLaw nm) (lwZ G) 28 [some (.ref (gB G)), some (.ref a), some (.ref x), some (.int (nI (i + 6)))] [] h' (n * 23) (n * 1825)) : wp l G (mLaw nm) (lwZ G) 1168 [some (.ref (gB G)), some (.ref a), some (.ref x), some (.int (nI i))] [] h (n * 23 + 23) (n * 1825 + 1825) := by
  refine wp_widen (rc' := n * 23 + (mR mX11_put).cells) (rs' := n * 1825 + (mR mX11_put).slots) (Nat.add_le_add_left (Nat.le_of_ble_eq_true rfl) _) (Nat.add_le_add_left (Nat.le_of_ble_eq_true rfl) _) ?_
  refine wp_aload_n (pc := 1168) dL_law_1168 rfl rfl ?_
  refine wp_aload_n (pc := 1169) dL_law_1169 rfl rfl ?_
  refine wp_iload_n (pc := 1170) dL_law_1170 rfl rfl ?_
  refine wp_iconst (pc := 1171) (v := 1) dL_law_1171 (by decide) ?_
  refine wp_iadd (pc := 1172) dL_law_1172 ?_
  refine wp_sld (pc := 1173) (i := i + 1) dL_law_1173 hb (lw_ix 1 rfl hi (by decide) hL) ?_
  refine wp_aload_n (pc := 1174) dL_law_1174 rfl rfl ?_
  refine wp_iload_n (pc := 1175) dL_law_1175 rfl rfl ?_
  refine wp_iconst (pc := 1176) (v := 2) dL_law_1176 (by decide) ?_
  refine wp_iadd (pc := 1177) dL_law_1177 ?_
  refine wp_sld (pc := 1178) (i := i + 2) dL_law_1178 hb (lw_ix 2 rfl hi (by decide) hL) ?_
  refine wp_aload_n (pc := 1179) dL_law_1179 rfl rfl ?_
  refine wp_iload_n (pc := 1180) dL_law_1180 rfl rfl ?_
  refine wp_iconst (pc := 1181) (v := 3) dL_law_1181 (by decide) ?_
  refine wp_iadd (pc := 1182) dL_law_1182 ?_
  refine wp_sld (pc := 1183) (i := i + 3) dL_law_1183 hb (lw_ix 3 rfl hi (by decide) hL) ?_
  refine lw_callC (pc := 1184) (rc := n * 23) (rs := n * 1825) [_, _, _] dL_law_1184 rfl cv_L_140_12 rfl ⟨(Nat.le_of_ble_eq_true rfl), (Nat.le_of_ble_eq_true rfl)⟩ (Nat.le_of_ble_eq_true rfl) hJ (K_put l G _ _ _ hJ.2.2) (fun h1 hM hK => ?_)
  refine wp_aload_n (pc := 1187) dL_law_1187 rfl rfl ?_
  refine wp_aload_n (pc := 1188) dL_law_1188 rfl rfl ?_
  refine wp_iload_n (pc := 1189) dL_law_1189 rfl rfl ?_
  refine wp_iconst (pc := 1190) (v := 1) dL_law_1190 (by decide) ?_
  refine wp_iadd (pc := 1191) dL_law_1191 ?_
  refine wp_sld (pc := 1192) (i := i + 1) dL_law_1192 hb (lw_ix 1 rfl hi (by decide) hL) ?_
  refine wp_aload_n (pc := 1193) dL_law_1193 rfl rfl ?_
  refine wp_iload_n (pc := 1194) dL_law_1194 rfl rfl ?_
  refine wp_iconst (pc := 1195) (v := 2) dL_law_1195 (by decide) ?_
  refine wp_iadd (pc := 1196) dL_law_1196 ?_
  refine wp_sld (pc := 1197) (i := i + 2) dL_law_1197 hb (lw_ix 2 rfl hi (by decide) hL) ?_
  refine wp_aload_n (pc := 1198) dL_law_1198 rfl rfl ?_
  refine wp_iload_n (pc := 1199) dL_law_1199 rfl rfl ?_
  refine wp_iconst (pc := 1200) (v := 3) dL_law_1200 (by decide) ?_
  refine wp_iadd (pc := 1201) dL_law_1201 ?_
  refine wp_sld (pc := 1202) (i := i + 3) dL_law_1202 hb (lw_ix 3 rfl hi (by decide) hL) ?_
  refine lw_callR (pc := 1203) [_, _, _] dL_law_1203 rfl cv_L_143_13 rfl ⟨(Nat.le_of_ble_eq_true rfl), (Nat.le_of_ble_eq_true rfl)⟩ (Nat.le_of_ble_eq_true rfl) ⟨rfl, rfl⟩ (R_put l G x am _ _ _  hJ.2.2.1) hM hK hJ (fun h2 hJ2 => ?_)
  refine wp_icmp_eq (pc := 1206) (tgt := 1267) dL_law_1206 (by decide) (fun _ => ?_) (fun z => absurd rfl z)
  exact lw_next hJ2 ih
theorem lw_c28 (hb : gB G < (gH G).size) (hL : gL G ≤ 3073) (hi : i + 6 ≤ gL G) (hJ : JJ G a x am M h) (ih : ∀ (M' : MS) (h' : Hp), JJ G a x am M' h' → wp l G (mLaw nm) (lwZ G) 28 [some (.ref (gB G)), some (.ref a), some (.ref x), some (.int (nI (i + 6)))] [] h' (n * 23) (n * 1825)) : wp l G (mLaw nm) (lwZ G) 1211 [some (.ref (gB G)), some (.ref a), some (.ref x), some (.int (nI i))] [] h (n * 23 + 23) (n * 1825 + 1825) := by
  refine wp_widen (rc' := n * 23 + (mR mX11_forge).cells) (rs' := n * 1825 + (mR mX11_forge).slots) (Nat.add_le_add_left (Nat.le_of_ble_eq_true rfl) _) (Nat.add_le_add_left (Nat.le_of_ble_eq_true rfl) _) ?_
  refine wp_aload_n (pc := 1211) dL_law_1211 rfl rfl ?_
  refine wp_aload_n (pc := 1212) dL_law_1212 rfl rfl ?_
  refine wp_iload_n (pc := 1213) dL_law_1213 rfl rfl ?_
  refine wp_iconst (pc := 1214) (v := 1) dL_law_1214 (by decide) ?_
  refine wp_iadd (pc := 1215) dL_law_1215 ?_
  refine wp_sld (pc := 1216) (i := i + 1) dL_law_1216 hb (lw_ix 1 rfl hi (by decide) hL) ?_
  refine wp_aload_n (pc := 1217) dL_law_1217 rfl rfl ?_
  refine wp_iload_n (pc := 1218) dL_law_1218 rfl rfl ?_
  refine wp_iconst (pc := 1219) (v := 2) dL_law_1219 (by decide) ?_
  refine wp_iadd (pc := 1220) dL_law_1220 ?_
  refine wp_sld (pc := 1221) (i := i + 2) dL_law_1221 hb (lw_ix 2 rfl hi (by decide) hL) ?_
  refine wp_aload_n (pc := 1222) dL_law_1222 rfl rfl ?_
  refine wp_iload_n (pc := 1223) dL_law_1223 rfl rfl ?_
  refine wp_iconst (pc := 1224) (v := 3) dL_law_1224 (by decide) ?_
  refine wp_iadd (pc := 1225) dL_law_1225 ?_
  refine wp_sld (pc := 1226) (i := i + 3) dL_law_1226 hb (lw_ix 3 rfl hi (by decide) hL) ?_
  refine lw_callC (pc := 1227) (rc := n * 23) (rs := n * 1825) [_, _, _] dL_law_1227 rfl cv_L_144_12 rfl ⟨(Nat.le_of_ble_eq_true rfl), (Nat.le_of_ble_eq_true rfl)⟩ (Nat.le_of_ble_eq_true rfl) hJ (K_forge l G _ _ _ hJ.2.2) (fun h1 hM hK => ?_)
  refine wp_aload_n (pc := 1230) dL_law_1230 rfl rfl ?_
  refine wp_aload_n (pc := 1231) dL_law_1231 rfl rfl ?_
  refine wp_iload_n (pc := 1232) dL_law_1232 rfl rfl ?_
  refine wp_iconst (pc := 1233) (v := 1) dL_law_1233 (by decide) ?_
  refine wp_iadd (pc := 1234) dL_law_1234 ?_
  refine wp_sld (pc := 1235) (i := i + 1) dL_law_1235 hb (lw_ix 1 rfl hi (by decide) hL) ?_
  refine wp_aload_n (pc := 1236) dL_law_1236 rfl rfl ?_
  refine wp_iload_n (pc := 1237) dL_law_1237 rfl rfl ?_
  refine wp_iconst (pc := 1238) (v := 2) dL_law_1238 (by decide) ?_
  refine wp_iadd (pc := 1239) dL_law_1239 ?_
  refine wp_sld (pc := 1240) (i := i + 2) dL_law_1240 hb (lw_ix 2 rfl hi (by decide) hL) ?_
  refine wp_aload_n (pc := 1241) dL_law_1241 rfl rfl ?_
  refine wp_iload_n (pc := 1242) dL_law_1242 rfl rfl ?_
  refine wp_iconst (pc := 1243) (v := 3) dL_law_1243 (by decide) ?_
  refine wp_iadd (pc := 1244) dL_law_1244 ?_
  refine wp_sld (pc := 1245) (i := i + 3) dL_law_1245 hb (lw_ix 3 rfl hi (by decide) hL) ?_
  refine lw_callR (pc := 1246) [_, _, _] dL_law_1246 rfl cv_L_147_13 rfl ⟨(Nat.le_of_ble_eq_true rfl), (Nat.le_of_ble_eq_true rfl)⟩ (Nat.le_of_ble_eq_true rfl) ⟨rfl, rfl⟩ (R_forge l G x am _ _ _  hJ.2.2.1) hM hK hJ (fun h2 hJ2 => ?_)
  refine wp_icmp_eq (pc := 1249) (tgt := 1267) dL_law_1249 (by decide) (fun _ => ?_) (fun z => absurd rfl z)
  exact lw_next hJ2 ih
theorem lw_c29 (hb : gB G < (gH G).size) (hL : gL G ≤ 3073) (hi : i + 6 ≤ gL G) (hJ : JJ G a x am M h) (ih : ∀ (M' : MS) (h' : Hp), JJ G a x am M' h' → wp l G (mLaw nm) (lwZ G) 28 [some (.ref (gB G)), some (.ref a), some (.ref x), some (.int (nI (i + 6)))] [] h' (n * 23) (n * 1825)) : wp l G (mLaw nm) (lwZ G) 1254 [some (.ref (gB G)), some (.ref a), some (.ref x), some (.int (nI i))] [] h (n * 23 + 23) (n * 1825 + 1825) := by
  refine wp_widen (rc' := n * 23 + (mR mX11_status).cells) (rs' := n * 1825 + (mR mX11_status).slots) (Nat.add_le_add_left (Nat.le_of_ble_eq_true rfl) _) (Nat.add_le_add_left (Nat.le_of_ble_eq_true rfl) _) ?_
  refine wp_aload_n (pc := 1254) dL_law_1254 rfl rfl ?_
  refine lw_callC (pc := 1255) (rc := n * 23) (rs := n * 1825) [] dL_law_1255 rfl cv_L_148_12 rfl ⟨(Nat.le_of_ble_eq_true rfl), (Nat.le_of_ble_eq_true rfl)⟩ (Nat.le_of_ble_eq_true rfl) hJ (K_status l G hJ.2.2) (fun h1 hM hK => ?_)
  refine wp_aload_n (pc := 1258) dL_law_1258 rfl rfl ?_
  refine lw_callR (pc := 1259) [] dL_law_1259 rfl cv_L_151_13 rfl ⟨(Nat.le_of_ble_eq_true rfl), (Nat.le_of_ble_eq_true rfl)⟩ (Nat.le_of_ble_eq_true rfl) ⟨rfl, rfl⟩ (R_status l G x am ) hM hK hJ (fun h2 hJ2 => ?_)
  refine wp_icmp_eq (pc := 1262) (tgt := 1267) dL_law_1262 (by decide) (fun _ => ?_) (fun z => absurd rfl z)
  exact lw_next hJ2 ih
theorem lw_loop (hb : gB G < (gH G).size) (hL : gL G ≤ 3073) : ∀ (n i : Nat) (M : MS) (h : Hp), gL G < i + 6 + 6 * n → i ≤ gL G + 6 → JJ G a x am M h → wp l G (mLaw nm) (lwZ G) 28 [some (.ref (gB G)), some (.ref a), some (.ref x), some (.int (nI i))] [] h (n * 23) (n * 1825)
  | 0, i, M, h, h1, h2, hJ => by
    refine wp_iload_n (pc := 28) dL_law_28 rfl rfl ?_
    refine wp_aload_n (pc := 29) dL_law_29 rfl rfl ?_
    refine wp_slen (pc := 30) dL_law_30 hb ?_
    refine wp_bipush (pc := 31) (v := 6) dL_law_31 (by decide) ?_
    refine wp_isub (pc := 33) dL_law_33 ?_
    refine wp_icmp_gt (pc := 34) (tgt := 1273) dL_law_34 (by decide) (fun c34 => ?_) (fun c34 => ?_)
    · skip
      refine wp_iconst (pc := 1273) (v := 1) dL_law_1273 (by decide) ?_
      exact lw_end dL_law_1274
    · skip
      exact absurd ((lw_gt (by omega) (by omega)).mpr (by omega)) c34
  | n + 1, i, M, h, h1, h2, hJ => by
    refine wp_iload_n (pc := 28) dL_law_28 rfl rfl ?_
    refine wp_aload_n (pc := 29) dL_law_29 rfl rfl ?_
    refine wp_slen (pc := 30) dL_law_30 hb ?_
    refine wp_bipush (pc := 31) (v := 6) dL_law_31 (by decide) ?_
    refine wp_isub (pc := 33) dL_law_33 ?_
    refine wp_icmp_gt (pc := 34) (tgt := 1273) dL_law_34 (by decide) (fun c34 => ?_) (fun c34 => ?_)
    · skip
      refine wp_iconst (pc := 1273) (v := 1) dL_law_1273 (by decide) ?_
      exact lw_end dL_law_1274
    · skip
      have hi : i + 6 ≤ gL G := by
        rcases Nat.lt_or_ge (gL G) (i + 6) with z | z
        · exact absurd ((lw_gt (by omega) (by omega)).mpr z) c34
        · exact z
      have ih := fun M' h' (hJ' : JJ G a x am M' h') => lw_loop hb hL n (i + 6) M' h' (by omega) (by omega) hJ'
      rw [Nat.succ_mul n 23, Nat.succ_mul n 1825]
      refine wp_aload_n (pc := 37) dL_law_37 rfl rfl ?_
      refine wp_iload_n (pc := 38) dL_law_38 rfl rfl ?_
      refine wp_sld (pc := 39) (i := i) dL_law_39 hb (lw_ix0 hi hL) ?_
      refine wp_bipush (pc := 40) (v := 31) dL_law_40 (by decide) ?_
      refine wp_iand (pc := 42) dL_law_42 ?_
      refine wp_tsw_0_29 (pc := 43) dL_law_43 (t0 := 176) (t1 := 209) (t2 := 242) (t3 := 285) (t4 := 298) (t5 := 321) (t6 := 355) (t7 := 414) (t8 := 437) (t9 := 460) (t10 := 523) (t11 := 566) (t12 := 609) (t13 := 652) (t14 := 675) (t15 := 698) (t16 := 721) (t17 := 754) (t18 := 788) (t19 := 811) (t20 := 854) (t21 := 898) (t22 := 931) (t23 := 974) (t24 := 1018) (t25 := 1101) (t26 := 1145) (t27 := 1168) (t28 := 1211) (t29 := 1254) (td := 1267) (by decide) (by decide) (by decide) (by decide) (by decide) (by decide) (by decide) (by decide) (by decide) (by decide) (by decide) (by decide) (by decide) (by decide) (by decide) (by decide) (by decide) (by decide) (by decide) (by decide) (by decide) (by decide) (by decide) (by decide) (by decide) (by decide) (by decide) (by decide) (by decide) (by decide) (by decide) (fun _ => lw_c0 hb hL hi hJ ih) (fun _ => lw_c1 hb hL hi hJ ih) (fun _ => lw_c2 hb hL hi hJ ih) (fun _ => lw_c3 hb hL hi hJ ih) (fun _ => lw_c4 hb hL hi hJ ih) (fun _ => lw_c5 hb hL hi hJ ih) (fun _ => lw_c6 hb hL hi hJ ih) (fun _ => lw_c7 hb hL hi hJ ih) (fun _ => lw_c8 hb hL hi hJ ih) (fun _ => lw_c9 hb hL hi hJ ih) (fun _ => lw_c10 hb hL hi hJ ih) (fun _ => lw_c11 hb hL hi hJ ih) (fun _ => lw_c12 hb hL hi hJ ih) (fun _ => lw_c13 hb hL hi hJ ih) (fun _ => lw_c14 hb hL hi hJ ih) (fun _ => lw_c15 hb hL hi hJ ih) (fun _ => lw_c16 hb hL hi hJ ih) (fun _ => lw_c17 hb hL hi hJ ih) (fun _ => lw_c18 hb hL hi hJ ih) (fun _ => lw_c19 hb hL hi hJ ih) (fun _ => lw_c20 hb hL hi hJ ih) (fun _ => lw_c21 hb hL hi hJ ih) (fun _ => lw_c22 hb hL hi hJ ih) (fun _ => lw_c23 hb hL hi hJ ih) (fun _ => lw_c24 hb hL hi hJ ih) (fun _ => lw_c25 hb hL hi hJ ih) (fun _ => lw_c26 hb hL hi hJ ih) (fun _ => lw_c27 hb hL hi hJ ih) (fun _ => lw_c28 hb hL hi hJ ih) (fun _ => lw_c29 hb hL hi hJ ih) (fun _ => ?_)
      exact wp_widen (Nat.le_add_right _ _) (Nat.le_add_right _ _) (lw_next hJ ih)
end K51
