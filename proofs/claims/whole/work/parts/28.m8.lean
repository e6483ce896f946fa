/-! ===== the reference: what is told ===== -/
def isMn (M : MS) (j h : Nat) : Bool := if M.2.1 32 h = 0 then false else if M.2.1 32 h = M.2.1 43 j then true else false
def twG (M : MS) (j w t : Nat) : MS :=
  let h := 20 * w + t
  let A := sI M 32 h 0
  let e := A.2.2 45 j + (A.2.1 13 t).toInt64
  if e ≤ wClk A w then A else
  let B := sI A 29 h 1
  let C := sI B 30 h (B.2.1 40 j)
  let D := sI C 31 h (C.2.1 41 j)
  let E := sL D 33 h (D.2.2 44 j)
  sL E 34 h e
def twM (M : MS) (j : Nat) : MS :=
  let w := nx (M.2.1 37 j)
  let t := nx (M.2.1 39 j)
  let h := 20 * w + t
  if M.2.1 36 j = 4 then (if isMn M j h = true then twG M j w t else M)
  else if M.2.1 36 j = 5 then sI M 32 h (if isMn M j h = true then 0 else M.2.1 32 h)
  else if M.2.1 36 j = 7 then sI M 29 h (if M.2.1 29 h = 0 then 0 else if M.2.2 33 h = M.2.2 44 j then 0 else 1)
  else sS M 52 (M.1 52 + 1)
def f_deliver (M : MS) (v : Int32) : Int32 × MS :=
  if isIx v (nx (M.1 35)) = false then (-2, M) else if M.2.1 42 (nx v) = 0 then (if M.1 35 + 3 ≤ 400 then (
  if M.2.1 36 (nx v) < 4 then (if M.1 27 = M.2.1 38 (nx v) then (if M.2.1 5 (nx (M.2.1 38 (nx v))) = 0 then (0, sI M 42 (nx v) 1) else if isMst M = false then (0, sI M 42 (nx v) 1) else (1, tkM (sI M 42 (nx v) 1) (nx v))) else (0, sI M 42 (nx v) 1))
  else if M.2.1 10 (nx (M.2.1 37 (nx v))) = 0 then (0, sI M 42 (nx v) 1) else (1, twM (sI M 42 (nx v) 1) (nx v))) else (-4, M)) else (-3, M)
def f_look (M : MS) (v : Int32) : Int32 × MS := if isIx v (nx (M.1 11)) = false then (-2, M) else if M.1 27 = -1 then (-3, M) else if isMst M = false then (-3, M) else if M.1 35 = 400 then (-4, M) else ((looksM M (nx v)).2.1 21 (nx v), looksM M (nx v))
def f_grant (M : MS) (v i what : Int32) : Int32 := if isIx v (nx (M.1 11)) = false then -2 else if fin what 0 2 = false then -2 else if isIx i (nx (M.2.1 21 (nx v))) = false then -1 else if what = 0 then M.2.1 22 (20 * nx v + nx i) else if what = 1 then M.2.1 23 (20 * nx v + nx i) else M.2.1 24 (20 * nx v + nx i)
def f_ends (M : MS) (v i what : Int32) : Int64 := if isIx v (nx (M.1 11)) = false then -4611686018427387904 else if fin what 0 1 = false then -4611686018427387904 else if isIx i (nx (M.2.1 21 (nx v))) = false then -4611686018427387904 else if what = 0 then M.2.2 25 (20 * nx v + nx i) else M.2.2 26 (20 * nx v + nx i)
def mayB (M : MS) (w t : Nat) : Bool := if M.2.1 10 w = 0 then false else if M.2.1 29 (20 * w + t) = 0 then false else if M.2.2 34 (20 * w + t) ≤ wClk M w then false else true
def mysN (M : MS) (t : Nat) : Nat → Int32
  | 0 => 0
  | w + 1 => mysN M t w + bi (mayB M w t)
def f_told (M : MS) (v what : Int32) : Int32 := if isIx v (nx (M.1 11)) = false then -2 else if 0 ≤ what then (if what = 0 then M.2.1 12 (nx v) else if what = 1 then M.2.1 13 (nx v) else if what = 2 then lng M (nx v) else if what = 3 then M.2.1 14 (nx v) else if what = 4 then M.2.1 21 (nx v) else if what = 5 then M.2.1 15 (nx v) else if what = 6 then M.2.1 16 (nx v) else if what = 7 then (if M.2.1 20 (nx v) = 0 then 0 else 1) else if what = 8 then mysN M (nx v) (nx (M.1 6)) else if M.2.1 16 (nx v) ≤ what - 9 then -1 else M.2.1 17 (8 * nx v + (nx what - 9))) else -2
def f_holds (M : MS) (w v what : Int32) : Int32 := if isIx w (nx (M.1 6)) = false then -2 else if isIx v (nx (M.1 11)) = false then -2 else if fin what 0 4 = false then -2 else if what = 0 then bi (mayB M (nx w) (nx v)) else if what = 1 then (if M.2.1 29 (20 * nx w + nx v) = 0 then 0 else 1) else if what = 2 then (if M.2.1 29 (20 * nx w + nx v) = 0 then -1 else M.2.1 30 (20 * nx w + nx v)) else if what = 3 then (if M.2.1 29 (20 * nx w + nx v) = 0 then -1 else M.2.1 31 (20 * nx w + nx v)) else if M.2.1 32 (20 * nx w + nx v) = 0 then 0 else 1
def f_held (M : MS) (w v what : Int32) : Int64 := if isIx w (nx (M.1 6)) = false then -4611686018427387904 else if isIx v (nx (M.1 11)) = false then -4611686018427387904 else if fin what 0 1 = false then -4611686018427387904 else if M.2.1 29 (20 * nx w + nx v) = 0 then -4611686018427387904 else if what = 0 then M.2.2 33 (20 * nx w + nx v) else M.2.2 34 (20 * nx w + nx v)
def f_write (M : MS) (w v s : Int32) (y : Int64) : Int32 × MS := if isIx w (nx (M.1 6)) = false then (-2, M) else if isIx v (nx (M.1 11)) = false then (-2, M) else if isIx s (nx (M.1 46)) = false then (-2, M) else if M.2.1 10 (nx w) = 0 then (-3, M) else if M.2.1 29 (20 * nx w + nx v) = 0 then (-3, M) else if M.2.1 30 (20 * nx w + nx v) = 1 then (-3, M) else if M.2.2 47 (20 * nx s + nx v) ≤ M.2.2 33 (20 * nx w + nx v) then (1, sL (sL M 47 (20 * nx s + nx v) (M.2.2 33 (20 * nx w + nx v))) 48 (20 * nx s + nx v) y) else (0, sS M 53 (M.1 53 + 1))
def f_stored (M : MS) (s v what : Int32) : Int64 := if isIx s (nx (M.1 46)) = false then -4611686018427387904 else if isIx v (nx (M.1 11)) = false then -4611686018427387904 else if fin what 0 1 = false then -4611686018427387904 else if what = 0 then M.2.2 47 (20 * nx s + nx v) else M.2.2 48 (20 * nx s + nx v)
theorem le400 {L : Nat} (h : L ≤ 400) (hc : nI L + 3 ≤ 400) : L + 3 ≤ 400 := by
  rw [show (3 : Int32) = nI 3 from rfl, nI_add, show (400 : Int32) = nI 400 from rfl, nI_leI (by omega) (by decide)] at hc
  exact hc
theorem awk_congr {A B : MS} (h : A.2.1 5 = B.2.1 5) : ∀ n, awk A n = awk B n
  | 0 => rfl
  | n + 1 => by simp only [awk, awk_congr h n, h]
theorem isMst_congr {A B : MS} (h : A.2.1 5 = B.2.1 5) (h2 : A.1 2 = B.1 2) : isMst A = isMst B := by
  unfold isMst
  rw [h2, awk_congr h]
section M8
variable (l : Launch) (G : WG) (x : Nat) (am : Nat → Nat) (M : MS)
theorem ms_toWorker  (j : Nat) {w t : Nat} (hw : w < 20) (ht : t < 20) (hwj : M.2.1 37 j = nI w) (htj : M.2.1 39 j = nI t) (hj : j < 400) : MSp l G x am mX12_toWorker [.int (nI j)] M none (twM M j) := by
  refine MSp.intro (lv := [_, _, _, _, _, _, _]) (by decide) rfl (Nat.le_of_ble_eq_true rfl) (fun h0 h hM hF => ?_)
  have hwx : nx (M.2.1 37 j) = w := by rw [hwj]; exact nx_nI (by omega)
  have htx : nx (M.2.1 39 j) = t := by rw [htj]; exact nx_nI (by omega)
  have htw : twM M j = (if M.2.1 36 j = 4 then (if isMn M j (20 * w + t) = true then twG M j w t else M) else if M.2.1 36 j = 5 then sI M 32 (20 * w + t) (if isMn M j (20 * w + t) = true then 0 else M.2.1 32 (20 * w + t)) else if M.2.1 36 j = 7 then sI M 29 (20 * w + t) (if M.2.1 29 (20 * w + t) = 0 then 0 else if M.2.2 33 (20 * w + t) = M.2.2 44 j then 0 else 1) else sS M 52 (M.1 52 + 1)) := by unfold twM; rw [hwx, htx]
  refine wp_aload_n (pc := 0) dX12_toWorker_0 rfl rfl ?_
  refine wp_get (pc := 1) dX12_toWorker_1 fl_X12_103_13 hM.1 rfl ?_
  refine wp_iload_n (pc := 4) dX12_toWorker_4 rfl rfl ?_
  refine wp_iald (pc := 5) (i := j) dX12_toWorker_5 (hM.i 37 rfl) ⟨rfl, by omega, by decide⟩ ?_
  rw [hwj]
  refine wp_istore_n (pc := 6) (lv' := [_, _, _, _, _, _, _]) dX12_toWorker_6 rfl (Nat.le_of_ble_eq_true rfl) rfl rfl ?_
  refine wp_bipush (pc := 7) (v := 20) dX12_toWorker_7 (by decide) ?_
  refine wp_iload_n (pc := 9) dX12_toWorker_9 rfl rfl ?_
  refine wp_imul (pc := 10) dX12_toWorker_10 ?_
  refine wp_aload_n (pc := 11) dX12_toWorker_11 rfl rfl ?_
  refine wp_get (pc := 12) dX12_toWorker_12 fl_X12_109_13 hM.1 rfl ?_
  refine wp_iload_n (pc := 15) dX12_toWorker_15 rfl rfl ?_
  refine wp_iald (pc := 16) (i := j) dX12_toWorker_16 (hM.i 39 rfl) ⟨rfl, by omega, by decide⟩ ?_
  rw [htj]
  refine wp_iadd (pc := 17) dX12_toWorker_17 ?_
  refine wp_istore_n (pc := 18) (lv' := [_, _, _, _, _, _, _]) dX12_toWorker_18 rfl (Nat.le_of_ble_eq_true rfl) rfl rfl ?_
  refine wp_aload_n (pc := 19) dX12_toWorker_19 rfl rfl ?_
  refine wp_get (pc := 20) dX12_toWorker_20 fl_X12_91_13 hM.1 rfl ?_
  refine wp_iload_n (pc := 23) dX12_toWorker_23 rfl rfl ?_
  refine wp_iald (pc := 24) (i := ((20 * w) + t)) dX12_toWorker_24 (hM.i 32 rfl) ⟨by simp only [nl1, nl5, nl8, nl20, pk_mul, nI_add], by omega, by decide⟩ ?_
  refine wp_if_eq (pc := 25) (tgt := 47) dX12_toWorker_25 (by decide) (fun c25 => ?_) (fun c25 => ?_)
  · skip
    refine wp_iconst (pc := 47) (v := 0) dX12_toWorker_47 (by decide) ?_
    refine wp_istore (pc := 48) (lv' := [_, _, _, _, _, _, _]) dX12_toWorker_48 (Nat.le_of_ble_eq_true rfl) rfl rfl ?_
    refine wp_aload_n (pc := 50) dX12_toWorker_50 rfl rfl ?_
    refine wp_get (pc := 51) dX12_toWorker_51 fl_X12_100_13 hM.1 rfl ?_
    refine wp_iload_n (pc := 54) dX12_toWorker_54 rfl rfl ?_
    refine wp_iald (pc := 55) (i := j) dX12_toWorker_55 (hM.i 36 rfl) ⟨rfl, by omega, by decide⟩ ?_
    refine wp_tsw_4_7 (pc := 56) dX12_toWorker_56 (t0 := 88) (t1 := 186) (t2 := 249) (t3 := 210) (td := 249) (by decide) (by decide) (by decide) (by decide) (by decide) (fun c56 => ?_) (fun c56 => ?_) (fun c56 => ?_) (fun c56 => ?_) (fun c56 => ?_)
    · skip
      refine wp_iload (pc := 88) dX12_toWorker_88 rfl ?_
      refine wp_if_eq (pc := 90) (tgt := 259) dX12_toWorker_90 (by decide) (fun _ => ?_) (fun z => absurd (by decide) z)
      exact wp_vret (pc := 259) dX12_toWorker_259 rfl ⟨rfl, by first | (rw [htw, if_neg (by rw [c56]; decide), if_neg (by rw [c56]; decide), if_pos c56]; simp only [isMn, twG, eq_true c25, if_true, if_false, Bool.true_eq_false, Bool.false_eq_true, reduceIte, reduceCtorEq, Bool.not_true, Bool.not_false, true_and, and_true, and_false, false_and, or_true, true_or, or_false, false_or, not_true_eq_false, not_false_eq_true] <;> exact hM) | (rw [htw, if_neg (by rw [c56]; decide), if_pos c56]; simp only [isMn, twG, eq_true c25, if_true, if_false, Bool.true_eq_false, Bool.false_eq_true, reduceIte, reduceCtorEq, Bool.not_true, Bool.not_false, true_and, and_true, and_false, false_and, or_true, true_or, or_false, false_or, not_true_eq_false, not_false_eq_true] <;> exact hM) | (rw [htw, if_pos c56]; simp only [isMn, twG, eq_true c25, if_true, if_false, Bool.true_eq_false, Bool.false_eq_true, reduceIte, reduceCtorEq, Bool.not_true, Bool.not_false, true_and, and_true, and_false, false_and, or_true, true_or, or_false, false_or, not_true_eq_false, not_false_eq_true] <;> exact hM) | (rw [htw, if_neg (by rw [c56]; decide), if_neg (by rw [c56]; decide), if_neg (by rw [c56]; decide)]; simp only [isMn, twG, eq_true c25, if_true, if_false, Bool.true_eq_false, Bool.false_eq_true, reduceIte, reduceCtorEq, Bool.not_true, Bool.not_false, true_and, and_true, and_false, false_and, or_true, true_or, or_false, false_or, not_true_eq_false, not_false_eq_true] <;> exact hM) | (rw [htw, if_neg (sw_ne c56 (by decide)), if_neg (sw_ne c56 (by decide)), if_neg (sw_ne c56 (by decide))]; simp only [isMn, twG, eq_true c25, if_true, if_false, Bool.true_eq_false, Bool.false_eq_true, reduceIte, reduceCtorEq, Bool.not_true, Bool.not_false, true_and, and_true, and_false, false_and, or_true, true_or, or_false, false_or, not_true_eq_false, not_false_eq_true] <;> exact hM) | (rw [htw, if_neg (by rw [c56]; decide), if_neg (by rw [c56]; decide), if_neg (by rw [c56]; decide)]; exact hM) | (rw [htw, if_neg (sw_ne c56 (by decide)), if_neg (sw_ne c56 (by decide)), if_neg (sw_ne c56 (by decide))]; exact hM), hF⟩
    · skip
      refine wp_aload_n (pc := 186) dX12_toWorker_186 rfl rfl ?_
      refine wp_get (pc := 187) dX12_toWorker_187 fl_X12_91_13 hM.1 rfl ?_
      refine wp_iload_n (pc := 190) dX12_toWorker_190 rfl rfl ?_
      refine wp_iload (pc := 191) dX12_toWorker_191 rfl ?_
      refine wp_if_eq (pc := 193) (tgt := 200) dX12_toWorker_193 (by decide) (fun _ => ?_) (fun z => absurd (by decide) z)
      refine wp_aload_n (pc := 200) dX12_toWorker_200 rfl rfl ?_
      refine wp_get (pc := 201) dX12_toWorker_201 fl_X12_91_13 hM.1 rfl ?_
      refine wp_iload_n (pc := 204) dX12_toWorker_204 rfl rfl ?_
      refine wp_iald (pc := 205) (i := ((20 * w) + t)) dX12_toWorker_205 (hM.i 32 rfl) ⟨by simp only [nl1, nl5, nl8, nl20, pk_mul, nI_add], by omega, by decide⟩ ?_
      refine mp_iast (pc := 206) (k := 32) (i := ((20 * w) + t)) dX12_toWorker_206 hM hF rfl ⟨by simp only [nl1, nl5, nl8, nl20, pk_mul, nI_add], by omega, by decide⟩ (fun h hM hF => ?_)
      refine wp_goto (pc := 207) (tgt := 259) dX12_toWorker_207 (by decide) ?_
      exact wp_vret (pc := 259) dX12_toWorker_259 rfl ⟨rfl, by first | (rw [htw, if_neg (by rw [c56]; decide), if_neg (by rw [c56]; decide), if_pos c56]; simp only [isMn, twG, eq_true c25, if_true, if_false, Bool.true_eq_false, Bool.false_eq_true, reduceIte, reduceCtorEq, Bool.not_true, Bool.not_false, true_and, and_true, and_false, false_and, or_true, true_or, or_false, false_or, not_true_eq_false, not_false_eq_true] <;> exact hM) | (rw [htw, if_neg (by rw [c56]; decide), if_pos c56]; simp only [isMn, twG, eq_true c25, if_true, if_false, Bool.true_eq_false, Bool.false_eq_true, reduceIte, reduceCtorEq, Bool.not_true, Bool.not_false, true_and, and_true, and_false, false_and, or_true, true_or, or_false, false_or, not_true_eq_false, not_false_eq_true] <;> exact hM) | (rw [htw, if_pos c56]; simp only [isMn, twG, eq_true c25, if_true, if_false, Bool.true_eq_false, Bool.false_eq_true, reduceIte, reduceCtorEq, Bool.not_true, Bool.not_false, true_and, and_true, and_false, false_and, or_true, true_or, or_false, false_or, not_true_eq_false, not_false_eq_true] <;> exact hM) | (rw [htw, if_neg (by rw [c56]; decide), if_neg (by rw [c56]; decide), if_neg (by rw [c56]; decide)]; simp only [isMn, twG, eq_true c25, if_true, if_false, Bool.true_eq_false, Bool.false_eq_true, reduceIte, reduceCtorEq, Bool.not_true, Bool.not_false, true_and, and_true, and_false, false_and, or_true, true_or, or_false, false_or, not_true_eq_false, not_false_eq_true] <;> exact hM) | (rw [htw, if_neg (sw_ne c56 (by decide)), if_neg (sw_ne c56 (by decide)), if_neg (sw_ne c56 (by decide))]; simp only [isMn, twG, eq_true c25, if_true, if_false, Bool.true_eq_false, Bool.false_eq_true, reduceIte, reduceCtorEq, Bool.not_true, Bool.not_false, true_and, and_true, and_false, false_and, or_true, true_or, or_false, false_or, not_true_eq_false, not_false_eq_true] <;> exact hM) | (rw [htw, if_neg (by rw [c56]; decide), if_neg (by rw [c56]; decide), if_neg (by rw [c56]; decide)]; exact hM) | (rw [htw, if_neg (sw_ne c56 (by decide)), if_neg (sw_ne c56 (by decide)), if_neg (sw_ne c56 (by decide))]; exact hM), hF⟩
    · skip
      refine wp_aload_n (pc := 249) dX12_toWorker_249 rfl rfl ?_
      refine wp_dup (pc := 250) dX12_toWorker_250 rfl ?_
      refine wp_get (pc := 251) dX12_toWorker_251 fl_X12_294_13 hM.1 rfl ?_
      refine wp_iconst (pc := 254) (v := 1) dX12_toWorker_254 (by decide) ?_
      refine wp_iadd (pc := 255) dX12_toWorker_255 ?_
      refine mp_putS (pc := 256) dX12_toWorker_256 fl_X12_294_13 hM hF rfl rfl (by decide) rfl (fun h hM hF => ?_)
      exact wp_vret (pc := 259) dX12_toWorker_259 rfl ⟨rfl, by first | (rw [htw, if_neg (by rw [c56]; decide), if_neg (by rw [c56]; decide), if_pos c56]; simp only [isMn, twG, eq_true c25, if_true, if_false, Bool.true_eq_false, Bool.false_eq_true, reduceIte, reduceCtorEq, Bool.not_true, Bool.not_false, true_and, and_true, and_false, false_and, or_true, true_or, or_false, false_or, not_true_eq_false, not_false_eq_true] <;> exact hM) | (rw [htw, if_neg (by rw [c56]; decide), if_pos c56]; simp only [isMn, twG, eq_true c25, if_true, if_false, Bool.true_eq_false, Bool.false_eq_true, reduceIte, reduceCtorEq, Bool.not_true, Bool.not_false, true_and, and_true, and_false, false_and, or_true, true_or, or_false, false_or, not_true_eq_false, not_false_eq_true] <;> exact hM) | (rw [htw, if_pos c56]; simp only [isMn, twG, eq_true c25, if_true, if_false, Bool.true_eq_false, Bool.false_eq_true, reduceIte, reduceCtorEq, Bool.not_true, Bool.not_false, true_and, and_true, and_false, false_and, or_true, true_or, or_false, false_or, not_true_eq_false, not_false_eq_true] <;> exact hM) | (rw [htw, if_neg (by rw [c56]; decide), if_neg (by rw [c56]; decide), if_neg (by rw [c56]; decide)]; simp only [isMn, twG, eq_true c25, if_true, if_false, Bool.true_eq_false, Bool.false_eq_true, reduceIte, reduceCtorEq, Bool.not_true, Bool.not_false, true_and, and_true, and_false, false_and, or_true, true_or, or_false, false_or, not_true_eq_false, not_false_eq_true] <;> exact hM) | (rw [htw, if_neg (sw_ne c56 (by decide)), if_neg (sw_ne c56 (by decide)), if_neg (sw_ne c56 (by decide))]; simp only [isMn, twG, eq_true c25, if_true, if_false, Bool.true_eq_false, Bool.false_eq_true, reduceIte, reduceCtorEq, Bool.not_true, Bool.not_false, true_and, and_true, and_false, false_and, or_true, true_or, or_false, false_or, not_true_eq_false, not_false_eq_true] <;> exact hM) | (rw [htw, if_neg (by rw [c56]; decide), if_neg (by rw [c56]; decide), if_neg (by rw [c56]; decide)]; exact hM) | (rw [htw, if_neg (sw_ne c56 (by decide)), if_neg (sw_ne c56 (by decide)), if_neg (sw_ne c56 (by decide))]; exact hM), hF⟩
    · skip
      refine wp_aload_n (pc := 210) dX12_toWorker_210 rfl rfl ?_
      refine wp_get (pc := 211) dX12_toWorker_211 fl_X12_82_13 hM.1 rfl ?_
      refine wp_iload_n (pc := 214) dX12_toWorker_214 rfl rfl ?_
      refine wp_aload_n (pc := 215) dX12_toWorker_215 rfl rfl ?_
      refine wp_get (pc := 216) dX12_toWorker_216 fl_X12_82_13 hM.1 rfl ?_
      refine wp_iload_n (pc := 219) dX12_toWorker_219 rfl rfl ?_
      refine wp_zald (pc := 220) (i := ((20 * w) + t)) dX12_toWorker_220 (hM.z 29 rfl) ⟨by simp only [nl1, nl5, nl8, nl20, pk_mul, nI_add], by omega, by decide⟩ ?_
      refine wp_if_eq (pc := 221) (tgt := 244) dX12_toWorker_221 (by decide) (fun c221 => ?_) (fun c221 => ?_)
      · skip
        refine wp_iconst (pc := 244) (v := 0) dX12_toWorker_244 (by decide) ?_
        refine mp_zast (pc := 245) (k := 29) (i := ((20 * w) + t)) dX12_toWorker_245 hM hF rfl ⟨by simp only [nl1, nl5, nl8, nl20, pk_mul, nI_add], by omega, by decide⟩ (by decide) (fun h hM hF => ?_)
        refine wp_goto (pc := 246) (tgt := 259) dX12_toWorker_246 (by decide) ?_
        exact wp_vret (pc := 259) dX12_toWorker_259 rfl ⟨rfl, by first | (rw [htw, if_neg (by rw [c56]; decide), if_neg (by rw [c56]; decide), if_pos c56]; simp only [isMn, twG, eq_true c25, eq_true c221, if_true, if_false, Bool.true_eq_false, Bool.false_eq_true, reduceIte, reduceCtorEq, Bool.not_true, Bool.not_false, true_and, and_true, and_false, false_and, or_true, true_or, or_false, false_or, not_true_eq_false, not_false_eq_true] <;> exact hM) | (rw [htw, if_neg (by rw [c56]; decide), if_pos c56]; simp only [isMn, twG, eq_true c25, eq_true c221, if_true, if_false, Bool.true_eq_false, Bool.false_eq_true, reduceIte, reduceCtorEq, Bool.not_true, Bool.not_false, true_and, and_true, and_false, false_and, or_true, true_or, or_false, false_or, not_true_eq_false, not_false_eq_true] <;> exact hM) | (rw [htw, if_pos c56]; simp only [isMn, twG, eq_true c25, eq_true c221, if_true, if_false, Bool.true_eq_false, Bool.false_eq_true, reduceIte, reduceCtorEq, Bool.not_true, Bool.not_false, true_and, and_true, and_false, false_and, or_true, true_or, or_false, false_or, not_true_eq_false, not_false_eq_true] <;> exact hM) | (rw [htw, if_neg (by rw [c56]; decide), if_neg (by rw [c56]; decide), if_neg (by rw [c56]; decide)]; simp only [isMn, twG, eq_true c25, eq_true c221, if_true, if_false, Bool.true_eq_false, Bool.false_eq_true, reduceIte, reduceCtorEq, Bool.not_true, Bool.not_false, true_and, and_true, and_false, false_and, or_true, true_or, or_false, false_or, not_true_eq_false, not_false_eq_true] <;> exact hM) | (rw [htw, if_neg (sw_ne c56 (by decide)), if_neg (sw_ne c56 (by decide)), if_neg (sw_ne c56 (by decide))]; simp only [isMn, twG, eq_true c25, eq_true c221, if_true, if_false, Bool.true_eq_false, Bool.false_eq_true, reduceIte, reduceCtorEq, Bool.not_true, Bool.not_false, true_and, and_true, and_false, false_and, or_true, true_or, or_false, false_or, not_true_eq_false, not_false_eq_true] <;> exact hM) | (rw [htw, if_neg (by rw [c56]; decide), if_neg (by rw [c56]; decide), if_neg (by rw [c56]; decide)]; exact hM) | (rw [htw, if_neg (sw_ne c56 (by decide)), if_neg (sw_ne c56 (by decide)), if_neg (sw_ne c56 (by decide))]; exact hM), hF⟩
      · skip
        refine wp_aload_n (pc := 224) dX12_toWorker_224 rfl rfl ?_
        refine wp_get (pc := 225) dX12_toWorker_225 fl_X12_94_13 hM.1 rfl ?_
        refine wp_iload_n (pc := 228) dX12_toWorker_228 rfl rfl ?_
        refine wp_lald (pc := 229) (i := ((20 * w) + t)) dX12_toWorker_229 (hM.j 33 rfl) ⟨by simp only [nl1, nl5, nl8, nl20, pk_mul, nI_add], by omega, by decide⟩ ?_
        refine wp_aload_n (pc := 230) dX12_toWorker_230 rfl rfl ?_
        refine wp_get (pc := 231) dX12_toWorker_231 fl_X12_124_13 hM.1 rfl ?_
        refine wp_iload_n (pc := 234) dX12_toWorker_234 rfl rfl ?_
        refine wp_lald (pc := 235) (i := j) dX12_toWorker_235 (hM.j 44 rfl) ⟨rfl, by omega, by decide⟩ ?_
        refine wp_lcmp_eq (pc := 236) (tgt := 244) dX12_toWorker_236 dX12_toWorker_237 (by decide) (fun c236 => ?_) (fun c236 => ?_)
        · skip
          refine wp_iconst (pc := 244) (v := 0) dX12_toWorker_244 (by decide) ?_
          refine mp_zast (pc := 245) (k := 29) (i := ((20 * w) + t)) dX12_toWorker_245 hM hF rfl ⟨by simp only [nl1, nl5, nl8, nl20, pk_mul, nI_add], by omega, by decide⟩ (by decide) (fun h hM hF => ?_)
          refine wp_goto (pc := 246) (tgt := 259) dX12_toWorker_246 (by decide) ?_
          exact wp_vret (pc := 259) dX12_toWorker_259 rfl ⟨rfl, by first | (rw [htw, if_neg (by rw [c56]; decide), if_neg (by rw [c56]; decide), if_pos c56]; simp only [isMn, twG, eq_true c25, eq_false c221, eq_true c236, if_true, if_false, Bool.true_eq_false, Bool.false_eq_true, reduceIte, reduceCtorEq, Bool.not_true, Bool.not_false, true_and, and_true, and_false, false_and, or_true, true_or, or_false, false_or, not_true_eq_false, not_false_eq_true] <;> exact hM) | (rw [htw, if_neg (by rw [c56]; decide), if_pos c56]; simp only [isMn, twG, eq_true c25, eq_false c221, eq_true c236, if_true, if_false, Bool.true_eq_false, Bool.false_eq_true, reduceIte, reduceCtorEq, Bool.not_true, Bool.not_false, true_and, and_true, and_false, false_and, or_true, true_or, or_false, false_or, not_true_eq_false, not_false_eq_true] <;> exact hM) | (rw [htw, if_pos c56]; simp only [isMn, twG, eq_true c25, eq_false c221, eq_true c236, if_true, if_false, Bool.true_eq_false, Bool.false_eq_true, reduceIte, reduceCtorEq, Bool.not_true, Bool.not_false, true_and, and_true, and_false, false_and, or_true, true_or, or_false, false_or, not_true_eq_false, not_false_eq_true] <;> exact hM) | (rw [htw, if_neg (by rw [c56]; decide), if_neg (by rw [c56]; decide), if_neg (by rw [c56]; decide)]; simp only [isMn, twG, eq_true c25, eq_false c221, eq_true c236, if_true, if_false, Bool.true_eq_false, Bool.false_eq_true, reduceIte, reduceCtorEq, Bool.not_true, Bool.not_false, true_and, and_true, and_false, false_and, or_true, true_or, or_false, false_or, not_true_eq_false, not_false_eq_true] <;> exact hM) | (rw [htw, if_neg (sw_ne c56 (by decide)), if_neg (sw_ne c56 (by decide)), if_neg (sw_ne c56 (by decide))]; simp only [isMn, twG, eq_true c25, eq_false c221, eq_true c236, if_true, if_false, Bool.true_eq_false, Bool.false_eq_true, reduceIte, reduceCtorEq, Bool.not_true, Bool.not_false, true_and, and_true, and_false, false_and, or_true, true_or, or_false, false_or, not_true_eq_false, not_false_eq_true] <;> exact hM) | (rw [htw, if_neg (by rw [c56]; decide), if_neg (by rw [c56]; decide), if_neg (by rw [c56]; decide)]; exact hM) | (rw [htw, if_neg (sw_ne c56 (by decide)), if_neg (sw_ne c56 (by decide)), if_neg (sw_ne c56 (by decide))]; exact hM), hF⟩
        · skip
          refine wp_iconst (pc := 240) (v := 1) dX12_toWorker_240 (by decide) ?_
          refine wp_goto (pc := 241) (tgt := 245) dX12_toWorker_241 (by decide) ?_
          refine mp_zast (pc := 245) (k := 29) (i := ((20 * w) + t)) dX12_toWorker_245 hM hF rfl ⟨by simp only [nl1, nl5, nl8, nl20, pk_mul, nI_add], by omega, by decide⟩ (by decide) (fun h hM hF => ?_)
          refine wp_goto (pc := 246) (tgt := 259) dX12_toWorker_246 (by decide) ?_
          exact wp_vret (pc := 259) dX12_toWorker_259 rfl ⟨rfl, by first | (rw [htw, if_neg (by rw [c56]; decide), if_neg (by rw [c56]; decide), if_pos c56]; simp only [isMn, twG, eq_true c25, eq_false c221, eq_false c236, if_true, if_false, Bool.true_eq_false, Bool.false_eq_true, reduceIte, reduceCtorEq, Bool.not_true, Bool.not_false, true_and, and_true, and_false, false_and, or_true, true_or, or_false, false_or, not_true_eq_false, not_false_eq_true] <;> exact hM) | (rw [htw, if_neg (by rw [c56]; decide), if_pos c56]; simp only [isMn, twG, eq_true c25, eq_false c221, eq_false c236, if_true, if_false, Bool.true_eq_false, Bool.false_eq_true, reduceIte, reduceCtorEq, Bool.not_true, Bool.not_false, true_and, and_true, and_false, false_and, or_true, true_or, or_false, false_or, not_true_eq_false, not_false_eq_true] <;> exact hM) | (rw [htw, if_pos c56]; simp only [isMn, twG, eq_true c25, eq_false c221, eq_false c236, if_true, if_false, Bool.true_eq_false, Bool.false_eq_true, reduceIte, reduceCtorEq, Bool.not_true, Bool.not_false, true_and, and_true, and_false, false_and, or_true, true_or, or_false, false_or, not_true_eq_false, not_false_eq_true] <;> exact hM) | (rw [htw, if_neg (by rw [c56]; decide), if_neg (by rw [c56]; decide), if_neg (by rw [c56]; decide)]; simp only [isMn, twG, eq_true c25, eq_false c221, eq_false c236, if_true, if_false, Bool.true_eq_false, Bool.false_eq_true, reduceIte, reduceCtorEq, Bool.not_true, Bool.not_false, true_and, and_true, and_false, false_and, or_true, true_or, or_false, false_or, not_true_eq_false, not_false_eq_true] <;> exact hM) | (rw [htw, if_neg (sw_ne c56 (by decide)), if_neg (sw_ne c56 (by decide)), if_neg (sw_ne c56 (by decide))]; simp only [isMn, twG, eq_true c25, eq_false c221, eq_false c236, if_true, if_false, Bool.true_eq_false, Bool.false_eq_true, reduceIte, reduceCtorEq, Bool.not_true, Bool.not_false, true_and, and_true, and_false, false_and, or_true, true_or, or_false, false_or, not_true_eq_false, not_false_eq_true] <;> exact hM) | (rw [htw, if_neg (by rw [c56]; decide), if_neg (by rw [c56]; decide), if_neg (by rw [c56]; decide)]; exact hM) | (rw [htw, if_neg (sw_ne c56 (by decide)), if_neg (sw_ne c56 (by decide)), if_neg (sw_ne c56 (by decide))]; exact hM), hF⟩
    · skip
      refine wp_aload_n (pc := 249) dX12_toWorker_249 rfl rfl ?_
      refine wp_dup (pc := 250) dX12_toWorker_250 rfl ?_
      refine wp_get (pc := 251) dX12_toWorker_251 fl_X12_294_13 hM.1 rfl ?_
      refine wp_iconst (pc := 254) (v := 1) dX12_toWorker_254 (by decide) ?_
      refine wp_iadd (pc := 255) dX12_toWorker_255 ?_
      refine mp_putS (pc := 256) dX12_toWorker_256 fl_X12_294_13 hM hF rfl rfl (by decide) rfl (fun h hM hF => ?_)
      exact wp_vret (pc := 259) dX12_toWorker_259 rfl ⟨rfl, by first | (rw [htw, if_neg (by rw [c56]; decide), if_neg (by rw [c56]; decide), if_pos c56]; simp only [isMn, twG, eq_true c25, if_true, if_false, Bool.true_eq_false, Bool.false_eq_true, reduceIte, reduceCtorEq, Bool.not_true, Bool.not_false, true_and, and_true, and_false, false_and, or_true, true_or, or_false, false_or, not_true_eq_false, not_false_eq_true] <;> exact hM) | (rw [htw, if_neg (by rw [c56]; decide), if_pos c56]; simp only [isMn, twG, eq_true c25, if_true, if_false, Bool.true_eq_false, Bool.false_eq_true, reduceIte, reduceCtorEq, Bool.not_true, Bool.not_false, true_and, and_true, and_false, false_and, or_true, true_or, or_false, false_or, not_true_eq_false, not_false_eq_true] <;> exact hM) | (rw [htw, if_pos c56]; simp only [isMn, twG, eq_true c25, if_true, if_false, Bool.true_eq_false, Bool.false_eq_true, reduceIte, reduceCtorEq, Bool.not_true, Bool.not_false, true_and, and_true, and_false, false_and, or_true, true_or, or_false, false_or, not_true_eq_false, not_false_eq_true] <;> exact hM) | (rw [htw, if_neg (by rw [c56]; decide), if_neg (by rw [c56]; decide), if_neg (by rw [c56]; decide)]; simp only [isMn, twG, eq_true c25, if_true, if_false, Bool.true_eq_false, Bool.false_eq_true, reduceIte, reduceCtorEq, Bool.not_true, Bool.not_false, true_and, and_true, and_false, false_and, or_true, true_or, or_false, false_or, not_true_eq_false, not_false_eq_true] <;> exact hM) | (rw [htw, if_neg (sw_ne c56 (by decide)), if_neg (sw_ne c56 (by decide)), if_neg (sw_ne c56 (by decide))]; simp only [isMn, twG, eq_true c25, if_true, if_false, Bool.true_eq_false, Bool.false_eq_true, reduceIte, reduceCtorEq, Bool.not_true, Bool.not_false, true_and, and_true, and_false, false_and, or_true, true_or, or_false, false_or, not_true_eq_false, not_false_eq_true] <;> exact hM) | (rw [htw, if_neg (by rw [c56]; decide), if_neg (by rw [c56]; decide), if_neg (by rw [c56]; decide)]; exact hM) | (rw [htw, if_neg (sw_ne c56 (by decide)), if_neg (sw_ne c56 (by decide)), if_neg (sw_ne c56 (by decide))]; exact hM), hF⟩
  · skip
    refine wp_aload_n (pc := 28) dX12_toWorker_28 rfl rfl ?_
    refine wp_get (pc := 29) dX12_toWorker_29 fl_X12_91_13 hM.1 rfl ?_
    refine wp_iload_n (pc := 32) dX12_toWorker_32 rfl rfl ?_
    refine wp_iald (pc := 33) (i := ((20 * w) + t)) dX12_toWorker_33 (hM.i 32 rfl) ⟨by simp only [nl1, nl5, nl8, nl20, pk_mul, nI_add], by omega, by decide⟩ ?_
    refine wp_aload_n (pc := 34) dX12_toWorker_34 rfl rfl ?_
    refine wp_get (pc := 35) dX12_toWorker_35 fl_X12_121_13 hM.1 rfl ?_
    refine wp_iload_n (pc := 38) dX12_toWorker_38 rfl rfl ?_
    refine wp_iald (pc := 39) (i := j) dX12_toWorker_39 (hM.i 43 rfl) ⟨rfl, by omega, by decide⟩ ?_
    refine wp_icmp_ne (pc := 40) (tgt := 47) dX12_toWorker_40 (by decide) (fun c40 => ?_) (fun c40 => ?_)
    · skip
      refine wp_iconst (pc := 47) (v := 0) dX12_toWorker_47 (by decide) ?_
      refine wp_istore (pc := 48) (lv' := [_, _, _, _, _, _, _]) dX12_toWorker_48 (Nat.le_of_ble_eq_true rfl) rfl rfl ?_
      refine wp_aload_n (pc := 50) dX12_toWorker_50 rfl rfl ?_
      refine wp_get (pc := 51) dX12_toWorker_51 fl_X12_100_13 hM.1 rfl ?_
      refine wp_iload_n (pc := 54) dX12_toWorker_54 rfl rfl ?_
      refine wp_iald (pc := 55) (i := j) dX12_toWorker_55 (hM.i 36 rfl) ⟨rfl, by omega, by decide⟩ ?_
      refine wp_tsw_4_7 (pc := 56) dX12_toWorker_56 (t0 := 88) (t1 := 186) (t2 := 249) (t3 := 210) (td := 249) (by decide) (by decide) (by decide) (by decide) (by decide) (fun c56 => ?_) (fun c56 => ?_) (fun c56 => ?_) (fun c56 => ?_) (fun c56 => ?_)
      · skip
        refine wp_iload (pc := 88) dX12_toWorker_88 rfl ?_
        refine wp_if_eq (pc := 90) (tgt := 259) dX12_toWorker_90 (by decide) (fun _ => ?_) (fun z => absurd (by decide) z)
        exact wp_vret (pc := 259) dX12_toWorker_259 rfl ⟨rfl, by first | (rw [htw, if_neg (by rw [c56]; decide), if_neg (by rw [c56]; decide), if_pos c56]; simp only [isMn, twG, eq_false c25, eq_false c40, if_true, if_false, Bool.true_eq_false, Bool.false_eq_true, reduceIte, reduceCtorEq, Bool.not_true, Bool.not_false, true_and, and_true, and_false, false_and, or_true, true_or, or_false, false_or, not_true_eq_false, not_false_eq_true] <;> exact hM) | (rw [htw, if_neg (by rw [c56]; decide), if_pos c56]; simp only [isMn, twG, eq_false c25, eq_false c40, if_true, if_false, Bool.true_eq_false, Bool.false_eq_true, reduceIte, reduceCtorEq, Bool.not_true, Bool.not_false, true_and, and_true, and_false, false_and, or_true, true_or, or_false, false_or, not_true_eq_false, not_false_eq_true] <;> exact hM) | (rw [htw, if_pos c56]; simp only [isMn, twG, eq_false c25, eq_false c40, if_true, if_false, Bool.true_eq_false, Bool.false_eq_true, reduceIte, reduceCtorEq, Bool.not_true, Bool.not_false, true_and, and_true, and_false, false_and, or_true, true_or, or_false, false_or, not_true_eq_false, not_false_eq_true] <;> exact hM) | (rw [htw, if_neg (by rw [c56]; decide), if_neg (by rw [c56]; decide), if_neg (by rw [c56]; decide)]; simp only [isMn, twG, eq_false c25, eq_false c40, if_true, if_false, Bool.true_eq_false, Bool.false_eq_true, reduceIte, reduceCtorEq, Bool.not_true, Bool.not_false, true_and, and_true, and_false, false_and, or_true, true_or, or_false, false_or, not_true_eq_false, not_false_eq_true] <;> exact hM) | (rw [htw, if_neg (sw_ne c56 (by decide)), if_neg (sw_ne c56 (by decide)), if_neg (sw_ne c56 (by decide))]; simp only [isMn, twG, eq_false c25, eq_false c40, if_true, if_false, Bool.true_eq_false, Bool.false_eq_true, reduceIte, reduceCtorEq, Bool.not_true, Bool.not_false, true_and, and_true, and_false, false_and, or_true, true_or, or_false, false_or, not_true_eq_false, not_false_eq_true] <;> exact hM) | (rw [htw, if_neg (by rw [c56]; decide), if_neg (by rw [c56]; decide), if_neg (by rw [c56]; decide)]; exact hM) | (rw [htw, if_neg (sw_ne c56 (by decide)), if_neg (sw_ne c56 (by decide)), if_neg (sw_ne c56 (by decide))]; exact hM), hF⟩
      · skip
        refine wp_aload_n (pc := 186) dX12_toWorker_186 rfl rfl ?_
        refine wp_get (pc := 187) dX12_toWorker_187 fl_X12_91_13 hM.1 rfl ?_
        refine wp_iload_n (pc := 190) dX12_toWorker_190 rfl rfl ?_
        refine wp_iload (pc := 191) dX12_toWorker_191 rfl ?_
        refine wp_if_eq (pc := 193) (tgt := 200) dX12_toWorker_193 (by decide) (fun _ => ?_) (fun z => absurd (by decide) z)
        refine wp_aload_n (pc := 200) dX12_toWorker_200 rfl rfl ?_
        refine wp_get (pc := 201) dX12_toWorker_201 fl_X12_91_13 hM.1 rfl ?_
        refine wp_iload_n (pc := 204) dX12_toWorker_204 rfl rfl ?_
        refine wp_iald (pc := 205) (i := ((20 * w) + t)) dX12_toWorker_205 (hM.i 32 rfl) ⟨by simp only [nl1, nl5, nl8, nl20, pk_mul, nI_add], by omega, by decide⟩ ?_
        refine mp_iast (pc := 206) (k := 32) (i := ((20 * w) + t)) dX12_toWorker_206 hM hF rfl ⟨by simp only [nl1, nl5, nl8, nl20, pk_mul, nI_add], by omega, by decide⟩ (fun h hM hF => ?_)
        refine wp_goto (pc := 207) (tgt := 259) dX12_toWorker_207 (by decide) ?_
        exact wp_vret (pc := 259) dX12_toWorker_259 rfl ⟨rfl, by first | (rw [htw, if_neg (by rw [c56]; decide), if_neg (by rw [c56]; decide), if_pos c56]; simp only [isMn, twG, eq_false c25, eq_false c40, if_true, if_false, Bool.true_eq_false, Bool.false_eq_true, reduceIte, reduceCtorEq, Bool.not_true, Bool.not_false, true_and, and_true, and_false, false_and, or_true, true_or, or_false, false_or, not_true_eq_false, not_false_eq_true] <;> exact hM) | (rw [htw, if_neg (by rw [c56]; decide), if_pos c56]; simp only [isMn, twG, eq_false c25, eq_false c40, if_true, if_false, Bool.true_eq_false, Bool.false_eq_true, reduceIte, reduceCtorEq, Bool.not_true, Bool.not_false, true_and, and_true, and_false, false_and, or_true, true_or, or_false, false_or, not_true_eq_false, not_false_eq_true] <;> exact hM) | (rw [htw, if_pos c56]; simp only [isMn, twG, eq_false c25, eq_false c40, if_true, if_false, Bool.true_eq_false, Bool.false_eq_true, reduceIte, reduceCtorEq, Bool.not_true, Bool.not_false, true_and, and_true, and_false, false_and, or_true, true_or, or_false, false_or, not_true_eq_false, not_false_eq_true] <;> exact hM) | (rw [htw, if_neg (by rw [c56]; decide), if_neg (by rw [c56]; decide), if_neg (by rw [c56]; decide)]; simp only [isMn, twG, eq_false c25, eq_false c40, if_true, if_false, Bool.true_eq_false, Bool.false_eq_true, reduceIte, reduceCtorEq, Bool.not_true, Bool.not_false, true_and, and_true, and_false, false_and, or_true, true_or, or_false, false_or, not_true_eq_false, not_false_eq_true] <;> exact hM) | (rw [htw, if_neg (sw_ne c56 (by decide)), if_neg (sw_ne c56 (by decide)), if_neg (sw_ne c56 (by decide))]; simp only [isMn, twG, eq_false c25, eq_false c40, if_true, if_false, Bool.true_eq_false, Bool.false_eq_true, reduceIte, reduceCtorEq, Bool.not_true, Bool.not_false, true_and, and_true, and_false, false_and, or_true, true_or, or_false, false_or, not_true_eq_false, not_false_eq_true] <;> exact hM) | (rw [htw, if_neg (by rw [c56]; decide), if_neg (by rw [c56]; decide), if_neg (by rw [c56]; decide)]; exact hM) | (rw [htw, if_neg (sw_ne c56 (by decide)), if_neg (sw_ne c56 (by decide)), if_neg (sw_ne c56 (by decide))]; exact hM), hF⟩
      · skip
        refine wp_aload_n (pc := 249) dX12_toWorker_249 rfl rfl ?_
        refine wp_dup (pc := 250) dX12_toWorker_250 rfl ?_
        refine wp_get (pc := 251) dX12_toWorker_251 fl_X12_294_13 hM.1 rfl ?_
        refine wp_iconst (pc := 254) (v := 1) dX12_toWorker_254 (by decide) ?_
        refine wp_iadd (pc := 255) dX12_toWorker_255 ?_
        refine mp_putS (pc := 256) dX12_toWorker_256 fl_X12_294_13 hM hF rfl rfl (by decide) rfl (fun h hM hF => ?_)
        exact wp_vret (pc := 259) dX12_toWorker_259 rfl ⟨rfl, by first | (rw [htw, if_neg (by rw [c56]; decide), if_neg (by rw [c56]; decide), if_pos c56]; simp only [isMn, twG, eq_false c25, eq_false c40, if_true, if_false, Bool.true_eq_false, Bool.false_eq_true, reduceIte, reduceCtorEq, Bool.not_true, Bool.not_false, true_and, and_true, and_false, false_and, or_true, true_or, or_false, false_or, not_true_eq_false, not_false_eq_true] <;> exact hM) | (rw [htw, if_neg (by rw [c56]; decide), if_pos c56]; simp only [isMn, twG, eq_false c25, eq_false c40, if_true, if_false, Bool.true_eq_false, Bool.false_eq_true, reduceIte, reduceCtorEq, Bool.not_true, Bool.not_false, true_and, and_true, and_false, false_and, or_true, true_or, or_false, false_or, not_true_eq_false, not_false_eq_true] <;> exact hM) | (rw [htw, if_pos c56]; simp only [isMn, twG, eq_false c25, eq_false c40, if_true, if_false, Bool.true_eq_false, Bool.false_eq_true, reduceIte, reduceCtorEq, Bool.not_true, Bool.not_false, true_and, and_true, and_false, false_and, or_true, true_or, or_false, false_or, not_true_eq_false, not_false_eq_true] <;> exact hM) | (rw [htw, if_neg (by rw [c56]; decide), if_neg (by rw [c56]; decide), if_neg (by rw [c56]; decide)]; simp only [isMn, twG, eq_false c25, eq_false c40, if_true, if_false, Bool.true_eq_false, Bool.false_eq_true, reduceIte, reduceCtorEq, Bool.not_true, Bool.not_false, true_and, and_true, and_false, false_and, or_true, true_or, or_false, false_or, not_true_eq_false, not_false_eq_true] <;> exact hM) | (rw [htw, if_neg (sw_ne c56 (by decide)), if_neg (sw_ne c56 (by decide)), if_neg (sw_ne c56 (by decide))]; simp only [isMn, twG, eq_false c25, eq_false c40, if_true, if_false, Bool.true_eq_false, Bool.false_eq_true, reduceIte, reduceCtorEq, Bool.not_true, Bool.not_false, true_and, and_true, and_false, false_and, or_true, true_or, or_false, false_or, not_true_eq_false, not_false_eq_true] <;> exact hM) | (rw [htw, if_neg (by rw [c56]; decide), if_neg (by rw [c56]; decide), if_neg (by rw [c56]; decide)]; exact hM) | (rw [htw, if_neg (sw_ne c56 (by decide)), if_neg (sw_ne c56 (by decide)), if_neg (sw_ne c56 (by decide))]; exact hM), hF⟩
      · skip
        refine wp_aload_n (pc := 210) dX12_toWorker_210 rfl rfl ?_
        refine wp_get (pc := 211) dX12_toWorker_211 fl_X12_82_13 hM.1 rfl ?_
        refine wp_iload_n (pc := 214) dX12_toWorker_214 rfl rfl ?_
        refine wp_aload_n (pc := 215) dX12_toWorker_215 rfl rfl ?_
        refine wp_get (pc := 216) dX12_toWorker_216 fl_X12_82_13 hM.1 rfl ?_
        refine wp_iload_n (pc := 219) dX12_toWorker_219 rfl rfl ?_
        refine wp_zald (pc := 220) (i := ((20 * w) + t)) dX12_toWorker_220 (hM.z 29 rfl) ⟨by simp only [nl1, nl5, nl8, nl20, pk_mul, nI_add], by omega, by decide⟩ ?_
        refine wp_if_eq (pc := 221) (tgt := 244) dX12_toWorker_221 (by decide) (fun c221 => ?_) (fun c221 => ?_)
        · skip
          refine wp_iconst (pc := 244) (v := 0) dX12_toWorker_244 (by decide) ?_
          refine mp_zast (pc := 245) (k := 29) (i := ((20 * w) + t)) dX12_toWorker_245 hM hF rfl ⟨by simp only [nl1, nl5, nl8, nl20, pk_mul, nI_add], by omega, by decide⟩ (by decide) (fun h hM hF => ?_)
          refine wp_goto (pc := 246) (tgt := 259) dX12_toWorker_246 (by decide) ?_
          exact wp_vret (pc := 259) dX12_toWorker_259 rfl ⟨rfl, by first | (rw [htw, if_neg (by rw [c56]; decide), if_neg (by rw [c56]; decide), if_pos c56]; simp only [isMn, twG, eq_false c25, eq_false c40, eq_true c221, if_true, if_false, Bool.true_eq_false, Bool.false_eq_true, reduceIte, reduceCtorEq, Bool.not_true, Bool.not_false, true_and, and_true, and_false, false_and, or_true, true_or, or_false, false_or, not_true_eq_false, not_false_eq_true] <;> exact hM) | (rw [htw, if_neg (by rw [c56]; decide), if_pos c56]; simp only [isMn, twG, eq_false c25, eq_false c40, eq_true c221, if_true, if_false, Bool.true_eq_false, Bool.false_eq_true, reduceIte, reduceCtorEq, Bool.not_true, Bool.not_false, true_and, and_true, and_false, false_and, or_true, true_or, or_false, false_or, not_true_eq_false, not_false_eq_true] <;> exact hM) | (rw [htw, if_pos c56]; simp only [isMn, twG, eq_false c25, eq_false c40, eq_true c221, if_true, if_false, Bool.true_eq_false, Bool.false_eq_true, reduceIte, reduceCtorEq, Bool.not_true, Bool.not_false, true_and, and_true, and_false, false_and, or_true, true_or, or_false, false_or, not_true_eq_false, not_false_eq_true] <;> exact hM) | (rw [htw, if_neg (by rw [c56]; decide), if_neg (by rw [c56]; decide), if_neg (by rw [c56]; decide)]; simp only [isMn, twG, eq_false c25, eq_false c40, eq_true c221, if_true, if_false, Bool.true_eq_false, Bool.false_eq_true, reduceIte, reduceCtorEq, Bool.not_true, Bool.not_false, true_and, and_true, and_false, false_and, or_true, true_or, or_false, false_or, not_true_eq_false, not_false_eq_true] <;> exact hM) | (rw [htw, if_neg (sw_ne c56 (by decide)), if_neg (sw_ne c56 (by decide)), if_neg (sw_ne c56 (by decide))]; simp only [isMn, twG, eq_false c25, eq_false c40, eq_true c221, if_true, if_false, Bool.true_eq_false, Bool.false_eq_true, reduceIte, reduceCtorEq, Bool.not_true, Bool.not_false, true_and, and_true, and_false, false_and, or_true, true_or, or_false, false_or, not_true_eq_false, not_false_eq_true] <;> exact hM) | (rw [htw, if_neg (by rw [c56]; decide), if_neg (by rw [c56]; decide), if_neg (by rw [c56]; decide)]; exact hM) | (rw [htw, if_neg (sw_ne c56 (by decide)), if_neg (sw_ne c56 (by decide)), if_neg (sw_ne c56 (by decide))]; exact hM), hF⟩
        · skip
          refine wp_aload_n (pc := 224) dX12_toWorker_224 rfl rfl ?_
          refine wp_get (pc := 225) dX12_toWorker_225 fl_X12_94_13 hM.1 rfl ?_
          refine wp_iload_n (pc := 228) dX12_toWorker_228 rfl rfl ?_
          refine wp_lald (pc := 229) (i := ((20 * w) + t)) dX12_toWorker_229 (hM.j 33 rfl) ⟨by simp only [nl1, nl5, nl8, nl20, pk_mul, nI_add], by omega, by decide⟩ ?_
          refine wp_aload_n (pc := 230) dX12_toWorker_230 rfl rfl ?_
          refine wp_get (pc := 231) dX12_toWorker_231 fl_X12_124_13 hM.1 rfl ?_
          refine wp_iload_n (pc := 234) dX12_toWorker_234 rfl rfl ?_
          refine wp_lald (pc := 235) (i := j) dX12_toWorker_235 (hM.j 44 rfl) ⟨rfl, by omega, by decide⟩ ?_
          refine wp_lcmp_eq (pc := 236) (tgt := 244) dX12_toWorker_236 dX12_toWorker_237 (by decide) (fun c236 => ?_) (fun c236 => ?_)
          · skip
            refine wp_iconst (pc := 244) (v := 0) dX12_toWorker_244 (by decide) ?_
            refine mp_zast (pc := 245) (k := 29) (i := ((20 * w) + t)) dX12_toWorker_245 hM hF rfl ⟨by simp only [nl1, nl5, nl8, nl20, pk_mul, nI_add], by omega, by decide⟩ (by decide) (fun h hM hF => ?_)
            refine wp_goto (pc := 246) (tgt := 259) dX12_toWorker_246 (by decide) ?_
            exact wp_vret (pc := 259) dX12_toWorker_259 rfl ⟨rfl, by first | (rw [htw, if_neg (by rw [c56]; decide), if_neg (by rw [c56]; decide), if_pos c56]; simp only [isMn, twG, eq_false c25, eq_false c40, eq_false c221, eq_true c236, if_true, if_false, Bool.true_eq_false, Bool.false_eq_true, reduceIte, reduceCtorEq, Bool.not_true, Bool.not_false, true_and, and_true, and_false, false_and, or_true, true_or, or_false, false_or, not_true_eq_false, not_false_eq_true] <;> exact hM) | (rw [htw, if_neg (by rw [c56]; decide), if_pos c56]; simp only [isMn, twG, eq_false c25, eq_false c40, eq_false c221, eq_true c236, if_true, if_false, Bool.true_eq_false, Bool.false_eq_true, reduceIte, reduceCtorEq, Bool.not_true, Bool.not_false, true_and, and_true, and_false, false_and, or_true, true_or, or_false, false_or, not_true_eq_false, not_false_eq_true] <;> exact hM) | (rw [htw, if_pos c56]; simp only [isMn, twG, eq_false c25, eq_false c40, eq_false c221, eq_true c236, if_true, if_false, Bool.true_eq_false, Bool.false_eq_true, reduceIte, reduceCtorEq, Bool.not_true, Bool.not_false, true_and, and_true, and_false, false_and, or_true, true_or, or_false, false_or, not_true_eq_false, not_false_eq_true] <;> exact hM) | (rw [htw, if_neg (by rw [c56]; decide), if_neg (by rw [c56]; decide), if_neg (by rw [c56]; decide)]; simp only [isMn, twG, eq_false c25, eq_false c40, eq_false c221, eq_true c236, if_true, if_false, Bool.true_eq_false, Bool.false_eq_true, reduceIte, reduceCtorEq, Bool.not_true, Bool.not_false, true_and, and_true, and_false, false_and, or_true, true_or, or_false, false_or, not_true_eq_false, not_false_eq_true] <;> exact hM) | (rw [htw, if_neg (sw_ne c56 (by decide)), if_neg (sw_ne c56 (by decide)), if_neg (sw_ne c56 (by decide))]; simp only [isMn, twG, eq_false c25, eq_false c40, eq_false c221, eq_true c236, if_true, if_false, Bool.true_eq_false, Bool.false_eq_true, reduceIte, reduceCtorEq, Bool.not_true, Bool.not_false, true_and, and_true, and_false, false_and, or_true, true_or, or_false, false_or, not_true_eq_false, not_false_eq_true] <;> exact hM) | (rw [htw, if_neg (by rw [c56]; decide), if_neg (by rw [c56]; decide), if_neg (by rw [c56]; decide)]; exact hM) | (rw [htw, if_neg (sw_ne c56 (by decide)), if_neg (sw_ne c56 (by decide)), if_neg (sw_ne c56 (by decide))]; exact hM), hF⟩
          · skip
            refine wp_iconst (pc := 240) (v := 1) dX12_toWorker_240 (by decide) ?_
            refine wp_goto (pc := 241) (tgt := 245) dX12_toWorker_241 (by decide) ?_
            refine mp_zast (pc := 245) (k := 29) (i := ((20 * w) + t)) dX12_toWorker_245 hM hF rfl ⟨by simp only [nl1, nl5, nl8, nl20, pk_mul, nI_add], by omega, by decide⟩ (by decide) (fun h hM hF => ?_)
            refine wp_goto (pc := 246) (tgt := 259) dX12_toWorker_246 (by decide) ?_
            exact wp_vret (pc := 259) dX12_toWorker_259 rfl ⟨rfl, by first | (rw [htw, if_neg (by rw [c56]; decide), if_neg (by rw [c56]; decide), if_pos c56]; simp only [isMn, twG, eq_false c25, eq_false c40, eq_false c221, eq_false c236, if_true, if_false, Bool.true_eq_false, Bool.false_eq_true, reduceIte, reduceCtorEq, Bool.not_true, Bool.not_false, true_and, and_true, and_false, false_and, or_true, true_or, or_false, false_or, not_true_eq_false, not_false_eq_true] <;> exact hM) | (rw [htw, if_neg (by rw [c56]; decide), if_pos c56]; simp only [isMn, twG, eq_false c25, eq_false c40, eq_false c221, eq_false c236, if_true, if_false, Bool.true_eq_false, Bool.false_eq_true, reduceIte, reduceCtorEq, Bool.not_true, Bool.not_false, true_and, and_true, and_false, false_and, or_true, true_or, or_false, false_or, not_true_eq_false, not_false_eq_true] <;> exact hM) | (rw [htw, if_pos c56]; simp only [isMn, twG, eq_false c25, eq_false c40, eq_false c221, eq_false c236, if_true, if_false, Bool.true_eq_false, Bool.false_eq_true, reduceIte, reduceCtorEq, Bool.not_true, Bool.not_false, true_and, and_true, and_false, false_and, or_true, true_or, or_false, false_or, not_true_eq_false, not_false_eq_true] <;> exact hM) | (rw [htw, if_neg (by rw [c56]; decide), if_neg (by rw [c56]; decide), if_neg (by rw [c56]; decide)]; simp only [isMn, twG, eq_false c25, eq_false c40, eq_false c221, eq_false c236, if_true, if_false, Bool.true_eq_false, Bool.false_eq_true, reduceIte, reduceCtorEq, Bool.not_true, Bool.not_false, true_and, and_true, and_false, false_and, or_true, true_or, or_false, false_or, not_true_eq_false, not_false_eq_true] <;> exact hM) | (rw [htw, if_neg (sw_ne c56 (by decide)), if_neg (sw_ne c56 (by decide)), if_neg (sw_ne c56 (by decide))]; simp only [isMn, twG, eq_false c25, eq_false c40, eq_false c221, eq_false c236, if_true, if_false, Bool.true_eq_false, Bool.false_eq_true, reduceIte, reduceCtorEq, Bool.not_true, Bool.not_false, true_and, and_true, and_false, false_and, or_true, true_or, or_false, false_or, not_true_eq_false, not_false_eq_true] <;> exact hM) | (rw [htw, if_neg (by rw [c56]; decide), if_neg (by rw [c56]; decide), if_neg (by rw [c56]; decide)]; exact hM) | (rw [htw, if_neg (sw_ne c56 (by decide)), if_neg (sw_ne c56 (by decide)), if_neg (sw_ne c56 (by decide))]; exact hM), hF⟩
      · skip
        refine wp_aload_n (pc := 249) dX12_toWorker_249 rfl rfl ?_
        refine wp_dup (pc := 250) dX12_toWorker_250 rfl ?_
        refine wp_get (pc := 251) dX12_toWorker_251 fl_X12_294_13 hM.1 rfl ?_
        refine wp_iconst (pc := 254) (v := 1) dX12_toWorker_254 (by decide) ?_
        refine wp_iadd (pc := 255) dX12_toWorker_255 ?_
        refine mp_putS (pc := 256) dX12_toWorker_256 fl_X12_294_13 hM hF rfl rfl (by decide) rfl (fun h hM hF => ?_)
        exact wp_vret (pc := 259) dX12_toWorker_259 rfl ⟨rfl, by first | (rw [htw, if_neg (by rw [c56]; decide), if_neg (by rw [c56]; decide), if_pos c56]; simp only [isMn, twG, eq_false c25, eq_false c40, if_true, if_false, Bool.true_eq_false, Bool.false_eq_true, reduceIte, reduceCtorEq, Bool.not_true, Bool.not_false, true_and, and_true, and_false, false_and, or_true, true_or, or_false, false_or, not_true_eq_false, not_false_eq_true] <;> exact hM) | (rw [htw, if_neg (by rw [c56]; decide), if_pos c56]; simp only [isMn, twG, eq_false c25, eq_false c40, if_true, if_false, Bool.true_eq_false, Bool.false_eq_true, reduceIte, reduceCtorEq, Bool.not_true, Bool.not_false, true_and, and_true, and_false, false_and, or_true, true_or, or_false, false_or, not_true_eq_false, not_false_eq_true] <;> exact hM) | (rw [htw, if_pos c56]; simp only [isMn, twG, eq_false c25, eq_false c40, if_true, if_false, Bool.true_eq_false, Bool.false_eq_true, reduceIte, reduceCtorEq, Bool.not_true, Bool.not_false, true_and, and_true, and_false, false_and, or_true, true_or, or_false, false_or, not_true_eq_false, not_false_eq_true] <;> exact hM) | (rw [htw, if_neg (by rw [c56]; decide), if_neg (by rw [c56]; decide), if_neg (by rw [c56]; decide)]; simp only [isMn, twG, eq_false c25, eq_false c40, if_true, if_false, Bool.true_eq_false, Bool.false_eq_true, reduceIte, reduceCtorEq, Bool.not_true, Bool.not_false, true_and, and_true, and_false, false_and, or_true, true_or, or_false, false_or, not_true_eq_false, not_false_eq_true] <;> exact hM) | (rw [htw, if_neg (sw_ne c56 (by decide)), if_neg (sw_ne c56 (by decide)), if_neg (sw_ne c56 (by decide))]; simp only [isMn, twG, eq_false c25, eq_false c40, if_true, if_false, Bool.true_eq_false, Bool.false_eq_true, reduceIte, reduceCtorEq, Bool.not_true, Bool.not_false, true_and, and_true, and_false, false_and, or_true, true_or, or_false, false_or, not_true_eq_false, not_false_eq_true] <;> exact hM) | (rw [htw, if_neg (by rw [c56]; decide), if_neg (by rw [c56]; decide), if_neg (by rw [c56]; decide)]; exact hM) | (rw [htw, if_neg (sw_ne c56 (by decide)), if_neg (sw_ne c56 (by decide)), if_neg (sw_ne c56 (by decide))]; exact hM), hF⟩
    · skip
      refine wp_iconst (pc := 43) (v := 1) dX12_toWorker_43 (by decide) ?_
      refine wp_goto (pc := 44) (tgt := 48) dX12_toWorker_44 (by decide) ?_
      refine wp_istore (pc := 48) (lv' := [_, _, _, _, _, _, _]) dX12_toWorker_48 (Nat.le_of_ble_eq_true rfl) rfl rfl ?_
      refine wp_aload_n (pc := 50) dX12_toWorker_50 rfl rfl ?_
      refine wp_get (pc := 51) dX12_toWorker_51 fl_X12_100_13 hM.1 rfl ?_
      refine wp_iload_n (pc := 54) dX12_toWorker_54 rfl rfl ?_
      refine wp_iald (pc := 55) (i := j) dX12_toWorker_55 (hM.i 36 rfl) ⟨rfl, by omega, by decide⟩ ?_
      refine wp_tsw_4_7 (pc := 56) dX12_toWorker_56 (t0 := 88) (t1 := 186) (t2 := 249) (t3 := 210) (td := 249) (by decide) (by decide) (by decide) (by decide) (by decide) (fun c56 => ?_) (fun c56 => ?_) (fun c56 => ?_) (fun c56 => ?_) (fun c56 => ?_)
      · skip
        refine wp_iload (pc := 88) dX12_toWorker_88 rfl ?_
        refine wp_if_eq (pc := 90) (tgt := 259) dX12_toWorker_90 (by decide) (fun z => absurd z (by decide)) (fun _ => ?_)
        refine wp_aload_n (pc := 93) dX12_toWorker_93 rfl rfl ?_
        refine wp_get (pc := 94) dX12_toWorker_94 fl_X12_91_13 hM.1 rfl ?_
        refine wp_iload_n (pc := 97) dX12_toWorker_97 rfl rfl ?_
        refine wp_iconst (pc := 98) (v := 0) dX12_toWorker_98 (by decide) ?_
        refine mp_iast (pc := 99) (k := 32) (i := ((20 * w) + t)) dX12_toWorker_99 hM hF rfl ⟨by simp only [nl1, nl5, nl8, nl20, pk_mul, nI_add], by omega, by decide⟩ (fun h hM hF => ?_)
        refine wp_aload_n (pc := 100) dX12_toWorker_100 rfl rfl ?_
        refine wp_get (pc := 101) dX12_toWorker_101 fl_X12_127_13 hM.1 rfl ?_
        refine wp_iload_n (pc := 104) dX12_toWorker_104 rfl rfl ?_
        refine wp_lald (pc := 105) (i := j) dX12_toWorker_105 (hM.j 45 rfl) ⟨rfl, by omega, by decide⟩ ?_
        refine wp_aload_n (pc := 106) dX12_toWorker_106 rfl rfl ?_
        refine wp_get (pc := 107) dX12_toWorker_107 fl_X12_35_13 hM.1 rfl ?_
        refine wp_aload_n (pc := 110) dX12_toWorker_110 rfl rfl ?_
        refine wp_get (pc := 111) dX12_toWorker_111 fl_X12_109_13 hM.1 rfl ?_
        refine wp_iload_n (pc := 114) dX12_toWorker_114 rfl rfl ?_
        refine wp_iald (pc := 115) (i := j) dX12_toWorker_115 (hM.i 39 rfl) ⟨rfl, by omega, by decide⟩ ?_
        rw [show (sI M 32 (20 * w + t) 0).2.1 39 j = nI t from htj]
        refine wp_iald (pc := 116) (i := t) dX12_toWorker_116 (hM.i 13 rfl) ⟨rfl, by omega, by decide⟩ ?_
        refine wp_i2l (pc := 117) dX12_toWorker_117 ?_
        refine wp_ladd (pc := 118) dX12_toWorker_118 ?_
        refine wp_lstore (pc := 119) (lv' := [_, _, _, _, _, _, _]) dX12_toWorker_119 (Nat.le_of_ble_eq_true rfl) rfl rfl ?_
        refine wp_lload (pc := 121) dX12_toWorker_121 rfl ?_
        refine wp_aload_n (pc := 123) dX12_toWorker_123 rfl rfl ?_
        refine wp_iload_n (pc := 124) dX12_toWorker_124 rfl rfl ?_
        refine mp_call (pc := 125) [_] dX12_toWorker_125 rfl cv_X12_194_13 rfl ⟨(Nat.le_of_ble_eq_true rfl), (Nat.le_of_ble_eq_true rfl)⟩ (Nat.le_of_ble_eq_true rfl) ⟨rfl, rfl⟩ (ms_wClock l G x am _ _ (by omega)) hM hF (fun h hM hF => ?_)
        refine wp_lcmp_le (pc := 128) (tgt := 183) dX12_toWorker_128 dX12_toWorker_129 (by decide) (fun c128 => ?_) (fun c128 => ?_)
        · skip
          refine wp_goto (pc := 183) (tgt := 259) dX12_toWorker_183 (by decide) ?_
          exact wp_vret (pc := 259) dX12_toWorker_259 rfl ⟨rfl, by first | (rw [htw, if_neg (by rw [c56]; decide), if_neg (by rw [c56]; decide), if_pos c56]; simp only [isMn, twG, eq_false c25, eq_true c40, eq_true c128, if_true, if_false, Bool.true_eq_false, Bool.false_eq_true, reduceIte, reduceCtorEq, Bool.not_true, Bool.not_false, true_and, and_true, and_false, false_and, or_true, true_or, or_false, false_or, not_true_eq_false, not_false_eq_true] <;> exact hM) | (rw [htw, if_neg (by rw [c56]; decide), if_pos c56]; simp only [isMn, twG, eq_false c25, eq_true c40, eq_true c128, if_true, if_false, Bool.true_eq_false, Bool.false_eq_true, reduceIte, reduceCtorEq, Bool.not_true, Bool.not_false, true_and, and_true, and_false, false_and, or_true, true_or, or_false, false_or, not_true_eq_false, not_false_eq_true] <;> exact hM) | (rw [htw, if_pos c56]; simp only [isMn, twG, eq_false c25, eq_true c40, eq_true c128, if_true, if_false, Bool.true_eq_false, Bool.false_eq_true, reduceIte, reduceCtorEq, Bool.not_true, Bool.not_false, true_and, and_true, and_false, false_and, or_true, true_or, or_false, false_or, not_true_eq_false, not_false_eq_true] <;> exact hM) | (rw [htw, if_neg (by rw [c56]; decide), if_neg (by rw [c56]; decide), if_neg (by rw [c56]; decide)]; simp only [isMn, twG, eq_false c25, eq_true c40, eq_true c128, if_true, if_false, Bool.true_eq_false, Bool.false_eq_true, reduceIte, reduceCtorEq, Bool.not_true, Bool.not_false, true_and, and_true, and_false, false_and, or_true, true_or, or_false, false_or, not_true_eq_false, not_false_eq_true] <;> exact hM) | (rw [htw, if_neg (sw_ne c56 (by decide)), if_neg (sw_ne c56 (by decide)), if_neg (sw_ne c56 (by decide))]; simp only [isMn, twG, eq_false c25, eq_true c40, eq_true c128, if_true, if_false, Bool.true_eq_false, Bool.false_eq_true, reduceIte, reduceCtorEq, Bool.not_true, Bool.not_false, true_and, and_true, and_false, false_and, or_true, true_or, or_false, false_or, not_true_eq_false, not_false_eq_true] <;> exact hM) | (rw [htw, if_neg (by rw [c56]; decide), if_neg (by rw [c56]; decide), if_neg (by rw [c56]; decide)]; exact hM) | (rw [htw, if_neg (sw_ne c56 (by decide)), if_neg (sw_ne c56 (by decide)), if_neg (sw_ne c56 (by decide))]; exact hM), hF⟩
        · skip
          refine wp_aload_n (pc := 132) dX12_toWorker_132 rfl rfl ?_
          refine wp_get (pc := 133) dX12_toWorker_133 fl_X12_82_13 hM.1 rfl ?_
          refine wp_iload_n (pc := 136) dX12_toWorker_136 rfl rfl ?_
          refine wp_iconst (pc := 137) (v := 1) dX12_toWorker_137 (by decide) ?_
          refine mp_zast (pc := 138) (k := 29) (i := ((20 * w) + t)) dX12_toWorker_138 hM hF rfl ⟨by simp only [nl1, nl5, nl8, nl20, pk_mul, nI_add], by omega, by decide⟩ (by decide) (fun h hM hF => ?_)
          refine wp_aload_n (pc := 139) dX12_toWorker_139 rfl rfl ?_
          refine wp_get (pc := 140) dX12_toWorker_140 fl_X12_85_13 hM.1 rfl ?_
          refine wp_iload_n (pc := 143) dX12_toWorker_143 rfl rfl ?_
          refine wp_aload_n (pc := 144) dX12_toWorker_144 rfl rfl ?_
          refine wp_get (pc := 145) dX12_toWorker_145 fl_X12_112_13 hM.1 rfl ?_
          refine wp_iload_n (pc := 148) dX12_toWorker_148 rfl rfl ?_
          refine wp_iald (pc := 149) (i := j) dX12_toWorker_149 (hM.i 40 rfl) ⟨rfl, by omega, by decide⟩ ?_
          refine mp_iast (pc := 150) (k := 30) (i := ((20 * w) + t)) dX12_toWorker_150 hM hF rfl ⟨by simp only [nl1, nl5, nl8, nl20, pk_mul, nI_add], by omega, by decide⟩ (fun h hM hF => ?_)
          refine wp_aload_n (pc := 151) dX12_toWorker_151 rfl rfl ?_
          refine wp_get (pc := 152) dX12_toWorker_152 fl_X12_88_13 hM.1 rfl ?_
          refine wp_iload_n (pc := 155) dX12_toWorker_155 rfl rfl ?_
          refine wp_aload_n (pc := 156) dX12_toWorker_156 rfl rfl ?_
          refine wp_get (pc := 157) dX12_toWorker_157 fl_X12_115_13 hM.1 rfl ?_
          refine wp_iload_n (pc := 160) dX12_toWorker_160 rfl rfl ?_
          refine wp_iald (pc := 161) (i := j) dX12_toWorker_161 (hM.i 41 rfl) ⟨rfl, by omega, by decide⟩ ?_
          refine mp_iast (pc := 162) (k := 31) (i := ((20 * w) + t)) dX12_toWorker_162 hM hF rfl ⟨by simp only [nl1, nl5, nl8, nl20, pk_mul, nI_add], by omega, by decide⟩ (fun h hM hF => ?_)
          refine wp_aload_n (pc := 163) dX12_toWorker_163 rfl rfl ?_
          refine wp_get (pc := 164) dX12_toWorker_164 fl_X12_94_13 hM.1 rfl ?_
          refine wp_iload_n (pc := 167) dX12_toWorker_167 rfl rfl ?_
          refine wp_aload_n (pc := 168) dX12_toWorker_168 rfl rfl ?_
          refine wp_get (pc := 169) dX12_toWorker_169 fl_X12_124_13 hM.1 rfl ?_
          refine wp_iload_n (pc := 172) dX12_toWorker_172 rfl rfl ?_
          refine wp_lald (pc := 173) (i := j) dX12_toWorker_173 (hM.j 44 rfl) ⟨rfl, by omega, by decide⟩ ?_
          refine mp_last (pc := 174) (k := 33) (i := ((20 * w) + t)) dX12_toWorker_174 hM hF rfl ⟨by simp only [nl1, nl5, nl8, nl20, pk_mul, nI_add], by omega, by decide⟩ (fun h hM hF => ?_)
          refine wp_aload_n (pc := 175) dX12_toWorker_175 rfl rfl ?_
          refine wp_get (pc := 176) dX12_toWorker_176 fl_X12_97_13 hM.1 rfl ?_
          refine wp_iload_n (pc := 179) dX12_toWorker_179 rfl rfl ?_
          refine wp_lload (pc := 180) dX12_toWorker_180 rfl ?_
          refine mp_last (pc := 182) (k := 34) (i := ((20 * w) + t)) dX12_toWorker_182 hM hF rfl ⟨by simp only [nl1, nl5, nl8, nl20, pk_mul, nI_add], by omega, by decide⟩ (fun h hM hF => ?_)
          refine wp_goto (pc := 183) (tgt := 259) dX12_toWorker_183 (by decide) ?_
          exact wp_vret (pc := 259) dX12_toWorker_259 rfl ⟨rfl, by first | (rw [htw, if_neg (by rw [c56]; decide), if_neg (by rw [c56]; decide), if_pos c56]; simp only [isMn, twG, eq_false c25, eq_true c40, eq_false c128, if_true, if_false, Bool.true_eq_false, Bool.false_eq_true, reduceIte, reduceCtorEq, Bool.not_true, Bool.not_false, true_and, and_true, and_false, false_and, or_true, true_or, or_false, false_or, not_true_eq_false, not_false_eq_true] <;> exact hM) | (rw [htw, if_neg (by rw [c56]; decide), if_pos c56]; simp only [isMn, twG, eq_false c25, eq_true c40, eq_false c128, if_true, if_false, Bool.true_eq_false, Bool.false_eq_true, reduceIte, reduceCtorEq, Bool.not_true, Bool.not_false, true_and, and_true, and_false, false_and, or_true, true_or, or_false, false_or, not_true_eq_false, not_false_eq_true] <;> exact hM) | (rw [htw, if_pos c56]; simp only [isMn, twG, eq_false c25, eq_true c40, eq_false c128, if_true, if_false, Bool.true_eq_false, Bool.false_eq_true, reduceIte, reduceCtorEq, Bool.not_true, Bool.not_false, true_and, and_true, and_false, false_and, or_true, true_or, or_false, false_or, not_true_eq_false, not_false_eq_true] <;> exact hM) | (rw [htw, if_neg (by rw [c56]; decide), if_neg (by rw [c56]; decide), if_neg (by rw [c56]; decide)]; simp only [isMn, twG, eq_false c25, eq_true c40, eq_false c128, if_true, if_false, Bool.true_eq_false, Bool.false_eq_true, reduceIte, reduceCtorEq, Bool.not_true, Bool.not_false, true_and, and_true, and_false, false_and, or_true, true_or, or_false, false_or, not_true_eq_false, not_false_eq_true] <;> exact hM) | (rw [htw, if_neg (sw_ne c56 (by decide)), if_neg (sw_ne c56 (by decide)), if_neg (sw_ne c56 (by decide))]; simp only [isMn, twG, eq_false c25, eq_true c40, eq_false c128, if_true, if_false, Bool.true_eq_false, Bool.false_eq_true, reduceIte, reduceCtorEq, Bool.not_true, Bool.not_false, true_and, and_true, and_false, false_and, or_true, true_or, or_false, false_or, not_true_eq_false, not_false_eq_true] <;> exact hM) | (rw [htw, if_neg (by rw [c56]; decide), if_neg (by rw [c56]; decide), if_neg (by rw [c56]; decide)]; exact hM) | (rw [htw, if_neg (sw_ne c56 (by decide)), if_neg (sw_ne c56 (by decide)), if_neg (sw_ne c56 (by decide))]; exact hM), hF⟩
      · skip
        refine wp_aload_n (pc := 186) dX12_toWorker_186 rfl rfl ?_
        refine wp_get (pc := 187) dX12_toWorker_187 fl_X12_91_13 hM.1 rfl ?_
        refine wp_iload_n (pc := 190) dX12_toWorker_190 rfl rfl ?_
        refine wp_iload (pc := 191) dX12_toWorker_191 rfl ?_
        refine wp_if_eq (pc := 193) (tgt := 200) dX12_toWorker_193 (by decide) (fun z => absurd z (by decide)) (fun _ => ?_)
        refine wp_iconst (pc := 196) (v := 0) dX12_toWorker_196 (by decide) ?_
        refine wp_goto (pc := 197) (tgt := 206) dX12_toWorker_197 (by decide) ?_
        refine mp_iast (pc := 206) (k := 32) (i := ((20 * w) + t)) dX12_toWorker_206 hM hF rfl ⟨by simp only [nl1, nl5, nl8, nl20, pk_mul, nI_add], by omega, by decide⟩ (fun h hM hF => ?_)
        refine wp_goto (pc := 207) (tgt := 259) dX12_toWorker_207 (by decide) ?_
        exact wp_vret (pc := 259) dX12_toWorker_259 rfl ⟨rfl, by first | (rw [htw, if_neg (by rw [c56]; decide), if_neg (by rw [c56]; decide), if_pos c56]; simp only [isMn, twG, eq_false c25, eq_true c40, if_true, if_false, Bool.true_eq_false, Bool.false_eq_true, reduceIte, reduceCtorEq, Bool.not_true, Bool.not_false, true_and, and_true, and_false, false_and, or_true, true_or, or_false, false_or, not_true_eq_false, not_false_eq_true] <;> exact hM) | (rw [htw, if_neg (by rw [c56]; decide), if_pos c56]; simp only [isMn, twG, eq_false c25, eq_true c40, if_true, if_false, Bool.true_eq_false, Bool.false_eq_true, reduceIte, reduceCtorEq, Bool.not_true, Bool.not_false, true_and, and_true, and_false, false_and, or_true, true_or, or_false, false_or, not_true_eq_false, not_false_eq_true] <;> exact hM) | (rw [htw, if_pos c56]; simp only [isMn, twG, eq_false c25, eq_true c40, if_true, if_false, Bool.true_eq_false, Bool.false_eq_true, reduceIte, reduceCtorEq, Bool.not_true, Bool.not_false, true_and, and_true, and_false, false_and, or_true, true_or, or_false, false_or, not_true_eq_false, not_false_eq_true] <;> exact hM) | (rw [htw, if_neg (by rw [c56]; decide), if_neg (by rw [c56]; decide), if_neg (by rw [c56]; decide)]; simp only [isMn, twG, eq_false c25, eq_true c40, if_true, if_false, Bool.true_eq_false, Bool.false_eq_true, reduceIte, reduceCtorEq, Bool.not_true, Bool.not_false, true_and, and_true, and_false, false_and, or_true, true_or, or_false, false_or, not_true_eq_false, not_false_eq_true] <;> exact hM) | (rw [htw, if_neg (sw_ne c56 (by decide)), if_neg (sw_ne c56 (by decide)), if_neg (sw_ne c56 (by decide))]; simp only [isMn, twG, eq_false c25, eq_true c40, if_true, if_false, Bool.true_eq_false, Bool.false_eq_true, reduceIte, reduceCtorEq, Bool.not_true, Bool.not_false, true_and, and_true, and_false, false_and, or_true, true_or, or_false, false_or, not_true_eq_false, not_false_eq_true] <;> exact hM) | (rw [htw, if_neg (by rw [c56]; decide), if_neg (by rw [c56]; decide), if_neg (by rw [c56]; decide)]; exact hM) | (rw [htw, if_neg (sw_ne c56 (by decide)), if_neg (sw_ne c56 (by decide)), if_neg (sw_ne c56 (by decide))]; exact hM), hF⟩
      · skip
        refine wp_aload_n (pc := 249) dX12_toWorker_249 rfl rfl ?_
        refine wp_dup (pc := 250) dX12_toWorker_250 rfl ?_
        refine wp_get (pc := 251) dX12_toWorker_251 fl_X12_294_13 hM.1 rfl ?_
        refine wp_iconst (pc := 254) (v := 1) dX12_toWorker_254 (by decide) ?_
        refine wp_iadd (pc := 255) dX12_toWorker_255 ?_
        refine mp_putS (pc := 256) dX12_toWorker_256 fl_X12_294_13 hM hF rfl rfl (by decide) rfl (fun h hM hF => ?_)
        exact wp_vret (pc := 259) dX12_toWorker_259 rfl ⟨rfl, by first | (rw [htw, if_neg (by rw [c56]; decide), if_neg (by rw [c56]; decide), if_pos c56]; simp only [isMn, twG, eq_false c25, eq_true c40, if_true, if_false, Bool.true_eq_false, Bool.false_eq_true, reduceIte, reduceCtorEq, Bool.not_true, Bool.not_false, true_and, and_true, and_false, false_and, or_true, true_or, or_false, false_or, not_true_eq_false, not_false_eq_true] <;> exact hM) | (rw [htw, if_neg (by rw [c56]; decide), if_pos c56]; simp only [isMn, twG, eq_false c25, eq_true c40, if_true, if_false, Bool.true_eq_false, Bool.false_eq_true, reduceIte, reduceCtorEq, Bool.not_true, Bool.not_false, true_and, and_true, and_false, false_and, or_true, true_or, or_false, false_or, not_true_eq_false, not_false_eq_true] <;> exact hM) | (rw [htw, if_pos c56]; simp only [isMn, twG, eq_false c25, eq_true c40, if_true, if_false, Bool.true_eq_false, Bool.false_eq_true, reduceIte, reduceCtorEq, Bool.not_true, Bool.not_false, true_and, and_true, and_false, false_and, or_true, true_or, or_false, false_or, not_true_eq_false, not_false_eq_true] <;> exact hM) | (rw [htw, if_neg (by rw [c56]; decide), if_neg (by rw [c56]; decide), if_neg (by rw [c56]; decide)]; simp only [isMn, twG, eq_false c25, eq_true c40, if_true, if_false, Bool.true_eq_false, Bool.false_eq_true, reduceIte, reduceCtorEq, Bool.not_true, Bool.not_false, true_and, and_true, and_false, false_and, or_true, true_or, or_false, false_or, not_true_eq_false, not_false_eq_true] <;> exact hM) | (rw [htw, if_neg (sw_ne c56 (by decide)), if_neg (sw_ne c56 (by decide)), if_neg (sw_ne c56 (by decide))]; simp only [isMn, twG, eq_false c25, eq_true c40, if_true, if_false, Bool.true_eq_false, Bool.false_eq_true, reduceIte, reduceCtorEq, Bool.not_true, Bool.not_false, true_and, and_true, and_false, false_and, or_true, true_or, or_false, false_or, not_true_eq_false, not_false_eq_true] <;> exact hM) | (rw [htw, if_neg (by rw [c56]; decide), if_neg (by rw [c56]; decide), if_neg (by rw [c56]; decide)]; exact hM) | (rw [htw, if_neg (sw_ne c56 (by decide)), if_neg (sw_ne c56 (by decide)), if_neg (sw_ne c56 (by decide))]; exact hM), hF⟩
      · skip
        refine wp_aload_n (pc := 210) dX12_toWorker_210 rfl rfl ?_
        refine wp_get (pc := 211) dX12_toWorker_211 fl_X12_82_13 hM.1 rfl ?_
        refine wp_iload_n (pc := 214) dX12_toWorker_214 rfl rfl ?_
        refine wp_aload_n (pc := 215) dX12_toWorker_215 rfl rfl ?_
        refine wp_get (pc := 216) dX12_toWorker_216 fl_X12_82_13 hM.1 rfl ?_
        refine wp_iload_n (pc := 219) dX12_toWorker_219 rfl rfl ?_
        refine wp_zald (pc := 220) (i := ((20 * w) + t)) dX12_toWorker_220 (hM.z 29 rfl) ⟨by simp only [nl1, nl5, nl8, nl20, pk_mul, nI_add], by omega, by decide⟩ ?_
        refine wp_if_eq (pc := 221) (tgt := 244) dX12_toWorker_221 (by decide) (fun c221 => ?_) (fun c221 => ?_)
        · skip
          refine wp_iconst (pc := 244) (v := 0) dX12_toWorker_244 (by decide) ?_
          refine mp_zast (pc := 245) (k := 29) (i := ((20 * w) + t)) dX12_toWorker_245 hM hF rfl ⟨by simp only [nl1, nl5, nl8, nl20, pk_mul, nI_add], by omega, by decide⟩ (by decide) (fun h hM hF => ?_)
          refine wp_goto (pc := 246) (tgt := 259) dX12_toWorker_246 (by decide) ?_
          exact wp_vret (pc := 259) dX12_toWorker_259 rfl ⟨rfl, by first | (rw [htw, if_neg (by rw [c56]; decide), if_neg (by rw [c56]; decide), if_pos c56]; simp only [isMn, twG, eq_false c25, eq_true c40, eq_true c221, if_true, if_false, Bool.true_eq_false, Bool.false_eq_true, reduceIte, reduceCtorEq, Bool.not_true, Bool.not_false, true_and, and_true, and_false, false_and, or_true, true_or, or_false, false_or, not_true_eq_false, not_false_eq_true] <;> exact hM) | (rw [htw, if_neg (by rw [c56]; decide), if_pos c56]; simp only [isMn, twG, eq_false c25, eq_true c40, eq_true c221, if_true, if_false, Bool.true_eq_false, Bool.false_eq_true, reduceIte, reduceCtorEq, Bool.not_true, Bool.not_false, true_and, and_true, and_false, false_and, or_true, true_or, or_false, false_or, not_true_eq_false, not_false_eq_true] <;> exact hM) | (rw [htw, if_pos c56]; simp only [isMn, twG, eq_false c25, eq_true c40, eq_true c221, if_true, if_false, Bool.true_eq_false, Bool.false_eq_true, reduceIte, reduceCtorEq, Bool.not_true, Bool.not_false, true_and, and_true, and_false, false_and, or_true, true_or, or_false, false_or, not_true_eq_false, not_false_eq_true] <;> exact hM) | (rw [htw, if_neg (by rw [c56]; decide), if_neg (by rw [c56]; decide), if_neg (by rw [c56]; decide)]; simp only [isMn, twG, eq_false c25, eq_true c40, eq_true c221, if_true, if_false, Bool.true_eq_false, Bool.false_eq_true, reduceIte, reduceCtorEq, Bool.not_true, Bool.not_false, true_and, and_true, and_false, false_and, or_true, true_or, or_false, false_or, not_true_eq_false, not_false_eq_true] <;> exact hM) | (rw [htw, if_neg (sw_ne c56 (by decide)), if_neg (sw_ne c56 (by decide)), if_neg (sw_ne c56 (by decide))]; simp only [isMn, twG, eq_false c25, eq_true c40, eq_true c221, if_true, if_false, Bool.true_eq_false, Bool.false_eq_true, reduceIte, reduceCtorEq, Bool.not_true, Bool.not_false, true_and, and_true, and_false, false_and, or_true, true_or, or_false, false_or, not_true_eq_false, not_false_eq_true] <;> exact hM) | (rw [htw, if_neg (by rw [c56]; decide), if_neg (by rw [c56]; decide), if_neg (by rw [c56]; decide)]; exact hM) | (rw [htw, if_neg (sw_ne c56 (by decide)), if_neg (sw_ne c56 (by decide)), if_neg (sw_ne c56 (by decide))]; exact hM), hF⟩
        · skip
          refine wp_aload_n (pc := 224) dX12_toWorker_224 rfl rfl ?_
          refine wp_get (pc := 225) dX12_toWorker_225 fl_X12_94_13 hM.1 rfl ?_
          refine wp_iload_n (pc := 228) dX12_toWorker_228 rfl rfl ?_
          refine wp_lald (pc := 229) (i := ((20 * w) + t)) dX12_toWorker_229 (hM.j 33 rfl) ⟨by simp only [nl1, nl5, nl8, nl20, pk_mul, nI_add], by omega, by decide⟩ ?_
          refine wp_aload_n (pc := 230) dX12_toWorker_230 rfl rfl ?_
          refine wp_get (pc := 231) dX12_toWorker_231 fl_X12_124_13 hM.1 rfl ?_
          refine wp_iload_n (pc := 234) dX12_toWorker_234 rfl rfl ?_
          refine wp_lald (pc := 235) (i := j) dX12_toWorker_235 (hM.j 44 rfl) ⟨rfl, by omega, by decide⟩ ?_
          refine wp_lcmp_eq (pc := 236) (tgt := 244) dX12_toWorker_236 dX12_toWorker_237 (by decide) (fun c236 => ?_) (fun c236 => ?_)
          · skip
            refine wp_iconst (pc := 244) (v := 0) dX12_toWorker_244 (by decide) ?_
            refine mp_zast (pc := 245) (k := 29) (i := ((20 * w) + t)) dX12_toWorker_245 hM hF rfl ⟨by simp only [nl1, nl5, nl8, nl20, pk_mul, nI_add], by omega, by decide⟩ (by decide) (fun h hM hF => ?_)
            refine wp_goto (pc := 246) (tgt := 259) dX12_toWorker_246 (by decide) ?_
            exact wp_vret (pc := 259) dX12_toWorker_259 rfl ⟨rfl, by first | (rw [htw, if_neg (by rw [c56]; decide), if_neg (by rw [c56]; decide), if_pos c56]; simp only [isMn, twG, eq_false c25, eq_true c40, eq_false c221, eq_true c236, if_true, if_false, Bool.true_eq_false, Bool.false_eq_true, reduceIte, reduceCtorEq, Bool.not_true, Bool.not_false, true_and, and_true, and_false, false_and, or_true, true_or, or_false, false_or, not_true_eq_false, not_false_eq_true] <;> exact hM) | (rw [htw, if_neg (by rw [c56]; decide), if_pos c56]; simp only [isMn, twG, eq_false c25, eq_true c40, eq_false c221, eq_true c236, if_true, if_false, Bool.true_eq_false, Bool.false_eq_true, reduceIte, reduceCtorEq, Bool.not_true, Bool.not_false, true_and, and_true, and_false, false_and, or_true, true_or, or_false, false_or, not_true_eq_false, not_false_eq_true] <;> exact hM) | (rw [htw, if_pos c56]; simp only [isMn, twG, eq_false c25, eq_true c40, eq_false c221, eq_true c236, if_true, if_false, Bool.true_eq_false, Bool.false_eq_true, reduceIte, reduceCtorEq, Bool.not_true, Bool.not_false, true_and, and_true, and_false, false_and, or_true, true_or, or_false, false_or, not_true_eq_false, not_false_eq_true] <;> exact hM) | (rw [htw, if_neg (by rw [c56]; decide), if_neg (by rw [c56]; decide), if_neg (by rw [c56]; decide)]; simp only [isMn, twG, eq_false c25, eq_true c40, eq_false c221, eq_true c236, if_true, if_false, Bool.true_eq_false, Bool.false_eq_true, reduceIte, reduceCtorEq, Bool.not_true, Bool.not_false, true_and, and_true, and_false, false_and, or_true, true_or, or_false, false_or, not_true_eq_false, not_false_eq_true] <;> exact hM) | (rw [htw, if_neg (sw_ne c56 (by decide)), if_neg (sw_ne c56 (by decide)), if_neg (sw_ne c56 (by decide))]; simp only [isMn, twG, eq_false c25, eq_true c40, eq_false c221, eq_true c236, if_true, if_false, Bool.true_eq_false, Bool.false_eq_true, reduceIte, reduceCtorEq, Bool.not_true, Bool.not_false, true_and, and_true, and_false, false_and, or_true, true_or, or_false, false_or, not_true_eq_false, not_false_eq_true] <;> exact hM) | (rw [htw, if_neg (by rw [c56]; decide), if_neg (by rw [c56]; decide), if_neg (by rw [c56]; decide)]; exact hM) | (rw [htw, if_neg (sw_ne c56 (by decide)), if_neg (sw_ne c56 (by decide)), if_neg (sw_ne c56 (by decide))]; exact hM), hF⟩
          · skip
            refine wp_iconst (pc := 240) (v := 1) dX12_toWorker_240 (by decide) ?_
            refine wp_goto (pc := 241) (tgt := 245) dX12_toWorker_241 (by decide) ?_
            refine mp_zast (pc := 245) (k := 29) (i := ((20 * w) + t)) dX12_toWorker_245 hM hF rfl ⟨by simp only [nl1, nl5, nl8, nl20, pk_mul, nI_add], by omega, by decide⟩ (by decide) (fun h hM hF => ?_)
            refine wp_goto (pc := 246) (tgt := 259) dX12_toWorker_246 (by decide) ?_
            exact wp_vret (pc := 259) dX12_toWorker_259 rfl ⟨rfl, by first | (rw [htw, if_neg (by rw [c56]; decide), if_neg (by rw [c56]; decide), if_pos c56]; simp only [isMn, twG, eq_false c25, eq_true c40, eq_false c221, eq_false c236, if_true, if_false, Bool.true_eq_false, Bool.false_eq_true, reduceIte, reduceCtorEq, Bool.not_true, Bool.not_false, true_and, and_true, and_false, false_and, or_true, true_or, or_false, false_or, not_true_eq_false, not_false_eq_true] <;> exact hM) | (rw [htw, if_neg (by rw [c56]; decide), if_pos c56]; simp only [isMn, twG, eq_false c25, eq_true c40, eq_false c221, eq_false c236, if_true, if_false, Bool.true_eq_false, Bool.false_eq_true, reduceIte, reduceCtorEq, Bool.not_true, Bool.not_false, true_and, and_true, and_false, false_and, or_true, true_or, or_false, false_or, not_true_eq_false, not_false_eq_true] <;> exact hM) | (rw [htw, if_pos c56]; simp only [isMn, twG, eq_false c25, eq_true c40, eq_false c221, eq_false c236, if_true, if_false, Bool.true_eq_false, Bool.false_eq_true, reduceIte, reduceCtorEq, Bool.not_true, Bool.not_false, true_and, and_true, and_false, false_and, or_true, true_or, or_false, false_or, not_true_eq_false, not_false_eq_true] <;> exact hM) | (rw [htw, if_neg (by rw [c56]; decide), if_neg (by rw [c56]; decide), if_neg (by rw [c56]; decide)]; simp only [isMn, twG, eq_false c25, eq_true c40, eq_false c221, eq_false c236, if_true, if_false, Bool.true_eq_false, Bool.false_eq_true, reduceIte, reduceCtorEq, Bool.not_true, Bool.not_false, true_and, and_true, and_false, false_and, or_true, true_or, or_false, false_or, not_true_eq_false, not_false_eq_true] <;> exact hM) | (rw [htw, if_neg (sw_ne c56 (by decide)), if_neg (sw_ne c56 (by decide)), if_neg (sw_ne c56 (by decide))]; simp only [isMn, twG, eq_false c25, eq_true c40, eq_false c221, eq_false c236, if_true, if_false, Bool.true_eq_false, Bool.false_eq_true, reduceIte, reduceCtorEq, Bool.not_true, Bool.not_false, true_and, and_true, and_false, false_and, or_true, true_or, or_false, false_or, not_true_eq_false, not_false_eq_true] <;> exact hM) | (rw [htw, if_neg (by rw [c56]; decide), if_neg (by rw [c56]; decide), if_neg (by rw [c56]; decide)]; exact hM) | (rw [htw, if_neg (sw_ne c56 (by decide)), if_neg (sw_ne c56 (by decide)), if_neg (sw_ne c56 (by decide))]; exact hM), hF⟩
      · skip
        refine wp_aload_n (pc := 249) dX12_toWorker_249 rfl rfl ?_
        refine wp_dup (pc := 250) dX12_toWorker_250 rfl ?_
        refine wp_get (pc := 251) dX12_toWorker_251 fl_X12_294_13 hM.1 rfl ?_
        refine wp_iconst (pc := 254) (v := 1) dX12_toWorker_254 (by decide) ?_
        refine wp_iadd (pc := 255) dX12_toWorker_255 ?_
        refine mp_putS (pc := 256) dX12_toWorker_256 fl_X12_294_13 hM hF rfl rfl (by decide) rfl (fun h hM hF => ?_)
        exact wp_vret (pc := 259) dX12_toWorker_259 rfl ⟨rfl, by first | (rw [htw, if_neg (by rw [c56]; decide), if_neg (by rw [c56]; decide), if_pos c56]; simp only [isMn, twG, eq_false c25, eq_true c40, if_true, if_false, Bool.true_eq_false, Bool.false_eq_true, reduceIte, reduceCtorEq, Bool.not_true, Bool.not_false, true_and, and_true, and_false, false_and, or_true, true_or, or_false, false_or, not_true_eq_false, not_false_eq_true] <;> exact hM) | (rw [htw, if_neg (by rw [c56]; decide), if_pos c56]; simp only [isMn, twG, eq_false c25, eq_true c40, if_true, if_false, Bool.true_eq_false, Bool.false_eq_true, reduceIte, reduceCtorEq, Bool.not_true, Bool.not_false, true_and, and_true, and_false, false_and, or_true, true_or, or_false, false_or, not_true_eq_false, not_false_eq_true] <;> exact hM) | (rw [htw, if_pos c56]; simp only [isMn, twG, eq_false c25, eq_true c40, if_true, if_false, Bool.true_eq_false, Bool.false_eq_true, reduceIte, reduceCtorEq, Bool.not_true, Bool.not_false, true_and, and_true, and_false, false_and, or_true, true_or, or_false, false_or, not_true_eq_false, not_false_eq_true] <;> exact hM) | (rw [htw, if_neg (by rw [c56]; decide), if_neg (by rw [c56]; decide), if_neg (by rw [c56]; decide)]; simp only [isMn, twG, eq_false c25, eq_true c40, if_true, if_false, Bool.true_eq_false, Bool.false_eq_true, reduceIte, reduceCtorEq, Bool.not_true, Bool.not_false, true_and, and_true, and_false, false_and, or_true, true_or, or_false, false_or, not_true_eq_false, not_false_eq_true] <;> exact hM) | (rw [htw, if_neg (sw_ne c56 (by decide)), if_neg (sw_ne c56 (by decide)), if_neg (sw_ne c56 (by decide))]; simp only [isMn, twG, eq_false c25, eq_true c40, if_true, if_false, Bool.true_eq_false, Bool.false_eq_true, reduceIte, reduceCtorEq, Bool.not_true, Bool.not_false, true_and, and_true, and_false, false_and, or_true, true_or, or_false, false_or, not_true_eq_false, not_false_eq_true] <;> exact hM) | (rw [htw, if_neg (by rw [c56]; decide), if_neg (by rw [c56]; decide), if_neg (by rw [c56]; decide)]; exact hM) | (rw [htw, if_neg (sw_ne c56 (by decide)), if_neg (sw_ne c56 (by decide)), if_neg (sw_ne c56 (by decide))]; exact hM), hF⟩
theorem ms_deliver (v : Int32)  {K : Nat} (hK : M.1 2 = nI K) (hK5 : K ≤ 5) {L : Nat} (hL : M.1 35 = nI L) (hL4 : L ≤ 400) (hd0 : ¬ 1000 - M.1 0 = 0) (hLt : ∀ j, j < L → ∃ w t b g q : Nat, w < 20 ∧ t < 20 ∧ b < K ∧ M.2.1 37 j = nI w ∧ M.2.1 39 j = nI t ∧ M.2.1 38 j = nI b ∧ M.2.1 21 t = nI g ∧ g ≤ 20 ∧ M.2.1 16 t = nI q ∧ q ≤ 8 ∧ (¬ M.2.1 20 t = 0 → 0 < q) ∧ (M.1 27 = nI b → gof (looksM (sI M 42 j 1) t) t ((looksM (sI M 42 j 1) t).2.1 37 j) (nx ((looksM (sI M 42 j 1) t).2.1 21 t)) = none → nx ((looksM (sI M 42 j 1) t).2.1 21 t) < 20)) : MSp l G x am mX12_deliver [.int v] M (some (.int (f_deliver M v).1)) (f_deliver M v).2 := by
  refine MSp.intro (lv := [_, _, _]) (by decide) rfl (Nat.le_of_ble_eq_true rfl) (fun h0 h hM hF => ?_)
  have hLx : nx (M.1 35) = L := by rw [hL]; exact nx_nI (by omega)
  have hKx : nx (M.1 2) = K := by rw [hK]; exact nx_nI (by omega)
  refine wp_aload_n (pc := 0) dX12_deliver_0 rfl rfl ?_
  refine wp_iload_n (pc := 1) dX12_deliver_1 rfl rfl ?_
  refine mp_call (pc := 2) [_] dX12_deliver_2 rfl cv_X12_228_13 rfl ⟨(Nat.le_of_ble_eq_true rfl), (Nat.le_of_ble_eq_true rfl)⟩ (Nat.le_of_ble_eq_true rfl) ⟨rfl, rfl⟩ (ms_isLetter l G x am _ _ (by exact hL) hL4) hM hF (fun h hM hF => ?_)
  refine wp_ifB_ne (pc := 5) (tgt := 11) dX12_deliver_5 (by decide) (fun c5 => ?_) (fun c5 => ?_)
  · obtain ⟨j, hj, rfl⟩ := isIx_t c5 (by omega)
    have e1 : nx (nI j) = j := nx_nI (by omega)
    obtain ⟨w, t, b, g, q, hw, ht, hb, hwj, htj, hbj, hg, hg2, hq, hq2, hcq, hgn⟩ := hLt j hj
    have e2 : nx (M.2.1 37 j) = w := by rw [hwj]; exact nx_nI (by omega)
    have e3 : nx (M.2.1 38 j) = b := by rw [hbj]; exact nx_nI (by omega)
    refine wp_aload_n (pc := 11) dX12_deliver_11 rfl rfl ?_
    refine wp_get (pc := 12) dX12_deliver_12 fl_X12_118_13 hM.1 rfl ?_
    refine wp_iload_n (pc := 15) dX12_deliver_15 rfl rfl ?_
    refine wp_iald (pc := 16) (i := j) dX12_deliver_16 (hM.i 42 rfl) ⟨rfl, by omega, by decide⟩ ?_
    refine wp_if_eq (pc := 17) (tgt := 23) dX12_deliver_17 (by decide) (fun c17 => ?_) (fun c17 => ?_)
    · skip
      refine wp_aload_n (pc := 23) dX12_deliver_23 rfl rfl ?_
      refine wp_get (pc := 24) dX12_deliver_24 fl_X12_178_13 hM.1 rfl ?_
      refine wp_iconst (pc := 27) (v := 3) dX12_deliver_27 (by decide) ?_
      refine wp_iadd (pc := 28) dX12_deliver_28 ?_
      refine wp_sipush (pc := 29) (v := 400) dX12_deliver_29 (by decide) ?_
      refine wp_icmp_le (pc := 32) (tgt := 38) dX12_deliver_32 (by decide) (fun c32 => ?_) (fun c32 => ?_)
      · have hL3 : L + 3 ≤ 400 := le400 hL4 (by rw [← hL]; exact c32)
        refine wp_aload_n (pc := 38) dX12_deliver_38 rfl rfl ?_
        refine wp_get (pc := 39) dX12_deliver_39 fl_X12_118_13 hM.1 rfl ?_
        refine wp_iload_n (pc := 42) dX12_deliver_42 rfl rfl ?_
        refine wp_iconst (pc := 43) (v := 1) dX12_deliver_43 (by decide) ?_
        refine mp_iast (pc := 44) (k := 42) (i := j) dX12_deliver_44 hM hF rfl ⟨rfl, by omega, by decide⟩ (fun h hM hF => ?_)
        refine wp_aload_n (pc := 45) dX12_deliver_45 rfl rfl ?_
        refine wp_get (pc := 46) dX12_deliver_46 fl_X12_100_13 hM.1 rfl ?_
        refine wp_iload_n (pc := 49) dX12_deliver_49 rfl rfl ?_
        refine wp_iald (pc := 50) (i := j) dX12_deliver_50 (hM.i 36 rfl) ⟨rfl, by omega, by decide⟩ ?_
        refine wp_iconst (pc := 51) (v := 4) dX12_deliver_51 (by decide) ?_
        refine wp_icmp_lt (pc := 52) (tgt := 78) dX12_deliver_52 (by decide) (fun c52 => ?_) (fun c52 => ?_)
        · have c52 : M.2.1 36 j < 4 := c52
          refine wp_aload_n (pc := 78) dX12_deliver_78 rfl rfl ?_
          refine wp_get (pc := 79) dX12_deliver_79 fl_X12_106_13 hM.1 rfl ?_
          refine wp_iload_n (pc := 82) dX12_deliver_82 rfl rfl ?_
          refine wp_iald (pc := 83) (i := j) dX12_deliver_83 (hM.i 38 rfl) ⟨rfl, by omega, by decide⟩ ?_
          rw [show (sI M 42 j 1).2.1 38 j = nI b from hbj]
          refine wp_istore_n (pc := 84) (lv' := [_, _, _]) dX12_deliver_84 rfl (Nat.le_of_ble_eq_true rfl) rfl rfl ?_
          refine wp_aload_n (pc := 85) dX12_deliver_85 rfl rfl ?_
          refine wp_get (pc := 86) dX12_deliver_86 fl_X12_78_13 hM.1 rfl ?_
          refine wp_iload_n (pc := 89) dX12_deliver_89 rfl rfl ?_
          refine wp_icmp_ne (pc := 90) (tgt := 109) dX12_deliver_90 (by decide) (fun c90 => ?_) (fun c90 => ?_)
          · have c90 : ¬ M.1 27 = M.2.1 38 j := by rw [hbj]; exact c90
            refine wp_iconst (pc := 109) (v := 0) dX12_deliver_109 (by decide) ?_
            exact wp_iret (pc := 110) dX12_deliver_110 rfl ⟨by simp only [f_deliver, hLx, e1, e2, e3, c5, eq_true c17, eq_true c32, eq_true c52, eq_false c90, if_true, if_false, Bool.true_eq_false, Bool.false_eq_true, reduceIte, reduceCtorEq, Bool.not_true, Bool.not_false, true_and, and_true, and_false, false_and, or_true, true_or, or_false, false_or, not_true_eq_false, not_false_eq_true], by simp only [f_deliver, hLx, e1, e2, e3, c5, eq_true c17, eq_true c32, eq_true c52, eq_false c90, if_true, if_false, Bool.true_eq_false, Bool.false_eq_true, reduceIte, reduceCtorEq, Bool.not_true, Bool.not_false, true_and, and_true, and_false, false_and, or_true, true_or, or_false, false_or, not_true_eq_false, not_false_eq_true] <;> exact hM, hF⟩
          · have c90x : M.1 27 = nI b := c90
            have c90 : M.1 27 = M.2.1 38 j := by rw [hbj]; exact c90x
            have hgn := hgn c90x
            refine wp_aload_n (pc := 93) dX12_deliver_93 rfl rfl ?_
            refine wp_get (pc := 94) dX12_deliver_94 fl_X12_16_13 hM.1 rfl ?_
            refine wp_iload_n (pc := 97) dX12_deliver_97 rfl rfl ?_
            refine wp_zald (pc := 98) (i := b) dX12_deliver_98 (hM.z 5 rfl) ⟨rfl, by omega, by decide⟩ ?_
            refine wp_if_eq (pc := 99) (tgt := 109) dX12_deliver_99 (by decide) (fun c99 => ?_) (fun c99 => ?_)
            · have c99 : M.2.1 5 b = 0 := c99
              refine wp_iconst (pc := 109) (v := 0) dX12_deliver_109 (by decide) ?_
              exact wp_iret (pc := 110) dX12_deliver_110 rfl ⟨by simp only [f_deliver, hLx, e1, e2, e3, c5, eq_true c17, eq_true c32, eq_true c52, eq_true c90, eq_true c99, if_true, if_false, Bool.true_eq_false, Bool.false_eq_true, reduceIte, reduceCtorEq, Bool.not_true, Bool.not_false, true_and, and_true, and_false, false_and, or_true, true_or, or_false, false_or, not_true_eq_false, not_false_eq_true], by simp only [f_deliver, hLx, e1, e2, e3, c5, eq_true c17, eq_true c32, eq_true c52, eq_true c90, eq_true c99, if_true, if_false, Bool.true_eq_false, Bool.false_eq_true, reduceIte, reduceCtorEq, Bool.not_true, Bool.not_false, true_and, and_true, and_false, false_and, or_true, true_or, or_false, false_or, not_true_eq_false, not_false_eq_true] <;> exact hM, hF⟩
            · have c99 : ¬ M.2.1 5 b = 0 := c99
              refine wp_aload_n (pc := 102) dX12_deliver_102 rfl rfl ?_
              refine mp_call (pc := 103) [] dX12_deliver_103 rfl cv_X12_203_13 rfl ⟨(Nat.le_of_ble_eq_true rfl), (Nat.le_of_ble_eq_true rfl)⟩ (Nat.le_of_ble_eq_true rfl) ⟨rfl, rfl⟩ (ms_isMost l G x am _ (by exact hK) hK5) hM hF (fun h hM hF => ?_)
              refine wp_ifB_ne (pc := 106) (tgt := 111) dX12_deliver_106 (by decide) (fun c106 => ?_) (fun c106 => ?_)
              · have c106 : isMst M = true := by rw [← isMst_congr (A := sI M 42 j 1) (B := M) rfl rfl]; exact c106
                refine wp_aload_n (pc := 111) dX12_deliver_111 rfl rfl ?_
                refine wp_iload_n (pc := 112) dX12_deliver_112 rfl rfl ?_
                refine mp_callV (pc := 113) [_] dX12_deliver_113 rfl cv_X12_300_13 rfl ⟨(Nat.le_of_ble_eq_true rfl), (Nat.le_of_ble_eq_true rfl)⟩ (Nat.le_of_ble_eq_true rfl) ⟨rfl, rfl⟩ (ms_toKeeper l G x am _ _ (t := t) (g := g) (k := b) (q := q) (L := L) (by omega) (by exact hg) hg2 (by exact hq) hq2 (by exact hcq) (by exact htj) (by exact c90x) (by omega) (by exact hd0) (by exact hL) hL3 hj (by exact hgn)) hM hF (fun h hM hF => ?_)
                refine wp_iconst (pc := 116) (v := 1) dX12_deliver_116 (by decide) ?_
                exact wp_iret (pc := 117) dX12_deliver_117 rfl ⟨by simp only [f_deliver, hLx, e1, e2, e3, c5, eq_true c17, eq_true c32, eq_true c52, eq_true c90, eq_false c99, c106, if_true, if_false, Bool.true_eq_false, Bool.false_eq_true, reduceIte, reduceCtorEq, Bool.not_true, Bool.not_false, true_and, and_true, and_false, false_and, or_true, true_or, or_false, false_or, not_true_eq_false, not_false_eq_true], by simp only [f_deliver, hLx, e1, e2, e3, c5, eq_true c17, eq_true c32, eq_true c52, eq_true c90, eq_false c99, c106, if_true, if_false, Bool.true_eq_false, Bool.false_eq_true, reduceIte, reduceCtorEq, Bool.not_true, Bool.not_false, true_and, and_true, and_false, false_and, or_true, true_or, or_false, false_or, not_true_eq_false, not_false_eq_true] <;> exact hM, hF⟩
              · have c106 : isMst M = false := by rw [← isMst_congr (A := sI M 42 j 1) (B := M) rfl rfl]; exact c106
                refine wp_iconst (pc := 109) (v := 0) dX12_deliver_109 (by decide) ?_
                exact wp_iret (pc := 110) dX12_deliver_110 rfl ⟨by simp only [f_deliver, hLx, e1, e2, e3, c5, eq_true c17, eq_true c32, eq_true c52, eq_true c90, eq_false c99, c106, if_true, if_false, Bool.true_eq_false, Bool.false_eq_true, reduceIte, reduceCtorEq, Bool.not_true, Bool.not_false, true_and, and_true, and_false, false_and, or_true, true_or, or_false, false_or, not_true_eq_false, not_false_eq_true], by simp only [f_deliver, hLx, e1, e2, e3, c5, eq_true c17, eq_true c32, eq_true c52, eq_true c90, eq_false c99, c106, if_true, if_false, Bool.true_eq_false, Bool.false_eq_true, reduceIte, reduceCtorEq, Bool.not_true, Bool.not_false, true_and, and_true, and_false, false_and, or_true, true_or, or_false, false_or, not_true_eq_false, not_false_eq_true] <;> exact hM, hF⟩
        · have c52 : ¬ M.2.1 36 j < 4 := c52
          refine wp_aload_n (pc := 55) dX12_deliver_55 rfl rfl ?_
          refine wp_get (pc := 56) dX12_deliver_56 fl_X12_29_13 hM.1 rfl ?_
          refine wp_aload_n (pc := 59) dX12_deliver_59 rfl rfl ?_
          refine wp_get (pc := 60) dX12_deliver_60 fl_X12_103_13 hM.1 rfl ?_
          refine wp_iload_n (pc := 63) dX12_deliver_63 rfl rfl ?_
          refine wp_iald (pc := 64) (i := j) dX12_deliver_64 (hM.i 37 rfl) ⟨rfl, by omega, by decide⟩ ?_
          rw [show (sI M 42 j 1).2.1 37 j = nI w from hwj]
          refine wp_zald (pc := 65) (i := w) dX12_deliver_65 (hM.z 10 rfl) ⟨rfl, by omega, by decide⟩ ?_
          refine wp_if_ne (pc := 66) (tgt := 71) dX12_deliver_66 (by decide) (fun c66 => ?_) (fun c66 => ?_)
          · have c66 : ¬ M.2.1 10 w = 0 := c66
            refine wp_aload_n (pc := 71) dX12_deliver_71 rfl rfl ?_
            refine wp_iload_n (pc := 72) dX12_deliver_72 rfl rfl ?_
            refine mp_callV (pc := 73) [_] dX12_deliver_73 rfl cv_X12_297_13 rfl ⟨(Nat.le_of_ble_eq_true rfl), (Nat.le_of_ble_eq_true rfl)⟩ (Nat.le_of_ble_eq_true rfl) ⟨rfl, rfl⟩ (ms_toWorker l G x am _ _ (w := w) (t := t) (by omega) (by omega) (by exact hwj) (by exact htj) (by omega)) hM hF (fun h hM hF => ?_)
            refine wp_iconst (pc := 76) (v := 1) dX12_deliver_76 (by decide) ?_
            exact wp_iret (pc := 77) dX12_deliver_77 rfl ⟨by simp only [f_deliver, hLx, e1, e2, e3, c5, eq_true c17, eq_true c32, eq_false c52, eq_false c66, if_true, if_false, Bool.true_eq_false, Bool.false_eq_true, reduceIte, reduceCtorEq, Bool.not_true, Bool.not_false, true_and, and_true, and_false, false_and, or_true, true_or, or_false, false_or, not_true_eq_false, not_false_eq_true], by simp only [f_deliver, hLx, e1, e2, e3, c5, eq_true c17, eq_true c32, eq_false c52, eq_false c66, if_true, if_false, Bool.true_eq_false, Bool.false_eq_true, reduceIte, reduceCtorEq, Bool.not_true, Bool.not_false, true_and, and_true, and_false, false_and, or_true, true_or, or_false, false_or, not_true_eq_false, not_false_eq_true] <;> exact hM, hF⟩
          · have c66 : M.2.1 10 w = 0 := c66
            refine wp_iconst (pc := 69) (v := 0) dX12_deliver_69 (by decide) ?_
            exact wp_iret (pc := 70) dX12_deliver_70 rfl ⟨by simp only [f_deliver, hLx, e1, e2, e3, c5, eq_true c17, eq_true c32, eq_false c52, eq_true c66, if_true, if_false, Bool.true_eq_false, Bool.false_eq_true, reduceIte, reduceCtorEq, Bool.not_true, Bool.not_false, true_and, and_true, and_false, false_and, or_true, true_or, or_false, false_or, not_true_eq_false, not_false_eq_true], by simp only [f_deliver, hLx, e1, e2, e3, c5, eq_true c17, eq_true c32, eq_false c52, eq_true c66, if_true, if_false, Bool.true_eq_false, Bool.false_eq_true, reduceIte, reduceCtorEq, Bool.not_true, Bool.not_false, true_and, and_true, and_false, false_and, or_true, true_or, or_false, false_or, not_true_eq_false, not_false_eq_true] <;> exact hM, hF⟩
      · skip
        refine wp_bipush (pc := 35) (v := (-4)) dX12_deliver_35 (by decide) ?_
        exact wp_iret (pc := 37) dX12_deliver_37 rfl ⟨by simp only [f_deliver, hLx, e1, e2, e3, c5, eq_true c17, eq_false c32, if_true, if_false, Bool.true_eq_false, Bool.false_eq_true, reduceIte, reduceCtorEq, Bool.not_true, Bool.not_false, true_and, and_true, and_false, false_and, or_true, true_or, or_false, false_or, not_true_eq_false, not_false_eq_true], by simp only [f_deliver, hLx, e1, e2, e3, c5, eq_true c17, eq_false c32, if_true, if_false, Bool.true_eq_false, Bool.false_eq_true, reduceIte, reduceCtorEq, Bool.not_true, Bool.not_false, true_and, and_true, and_false, false_and, or_true, true_or, or_false, false_or, not_true_eq_false, not_false_eq_true] <;> exact hM, hF⟩
    · skip
      refine wp_bipush (pc := 20) (v := (-3)) dX12_deliver_20 (by decide) ?_
      exact wp_iret (pc := 22) dX12_deliver_22 rfl ⟨by simp only [f_deliver, hLx, e1, e2, e3, c5, eq_false c17, if_true, if_false, Bool.true_eq_false, Bool.false_eq_true, reduceIte, reduceCtorEq, Bool.not_true, Bool.not_false, true_and, and_true, and_false, false_and, or_true, true_or, or_false, false_or, not_true_eq_false, not_false_eq_true], by simp only [f_deliver, hLx, e1, e2, e3, c5, eq_false c17, if_true, if_false, Bool.true_eq_false, Bool.false_eq_true, reduceIte, reduceCtorEq, Bool.not_true, Bool.not_false, true_and, and_true, and_false, false_and, or_true, true_or, or_false, false_or, not_true_eq_false, not_false_eq_true] <;> exact hM, hF⟩
  · skip
    refine wp_bipush (pc := 8) (v := (-2)) dX12_deliver_8 (by decide) ?_
    exact wp_iret (pc := 10) dX12_deliver_10 rfl ⟨by simp only [f_deliver, hLx, c5, if_true, if_false, Bool.true_eq_false, Bool.false_eq_true, reduceIte, reduceCtorEq, Bool.not_true, Bool.not_false, true_and, and_true, and_false, false_and, or_true, true_or, or_false, false_or, not_true_eq_false, not_false_eq_true], by simp only [f_deliver, hLx, c5, if_true, if_false, Bool.true_eq_false, Bool.false_eq_true, reduceIte, reduceCtorEq, Bool.not_true, Bool.not_false, true_and, and_true, and_false, false_and, or_true, true_or, or_false, false_or, not_true_eq_false, not_false_eq_true] <;> exact hM, hF⟩
theorem ms_look (v : Int32)  {K : Nat} (hK : M.1 2 = nI K) (hK5 : K ≤ 5) {L : Nat} (hL : M.1 35 = nI L) (hL4 : L ≤ 400) {N : Nat} (hT : M.1 11 = nI N) (hT2 : N ≤ 20) (hd0 : ¬ 1000 - M.1 0 = 0) (hTh : ∀ t, t < N → ∃ g q : Nat, M.2.1 21 t = nI g ∧ g ≤ 20 ∧ M.2.1 16 t = nI q ∧ q ≤ 8 ∧ (¬ M.2.1 20 t = 0 → 0 < q)) (hLd : M.1 27 = -1 ∨ ∃ k, k < 5 ∧ M.1 27 = nI k) : MSp l G x am mX12_look [.int v] M (some (.int (f_look M v).1)) (f_look M v).2 := by
  refine MSp.intro (lv := [_, _]) (by decide) rfl (Nat.le_of_ble_eq_true rfl) (fun h0 h hM hF => ?_)
  have hLx : nx (M.1 35) = L := by rw [hL]; exact nx_nI (by omega)
  have hKx : nx (M.1 2) = K := by rw [hK]; exact nx_nI (by omega)
  have hTx : nx (M.1 11) = N := by rw [hT]; exact nx_nI (by omega)
  refine wp_aload_n (pc := 0) dX12_look_0 rfl rfl ?_
  refine wp_iload_n (pc := 1) dX12_look_1 rfl rfl ?_
  refine mp_call (pc := 2) [_] dX12_look_2 rfl cv_X12_214_13 rfl ⟨(Nat.le_of_ble_eq_true rfl), (Nat.le_of_ble_eq_true rfl)⟩ (Nat.le_of_ble_eq_true rfl) ⟨rfl, rfl⟩ (ms_isThing l G x am _ _ (by exact hT) hT2) hM hF (fun h hM hF => ?_)
  refine wp_ifB_ne (pc := 5) (tgt := 11) dX12_look_5 (by decide) (fun c5 => ?_) (fun c5 => ?_)
  · obtain ⟨j, hj, rfl⟩ := isIx_t c5 (by omega)
    have e1 : nx (nI j) = j := nx_nI (by omega)
    obtain ⟨g, q, hg, hg2, hq, hq2, hcq⟩ := hTh j hj
    refine wp_aload_n (pc := 11) dX12_look_11 rfl rfl ?_
    refine wp_get (pc := 12) dX12_look_12 fl_X12_78_13 hM.1 rfl ?_
    refine wp_iconst (pc := 15) (v := (-1)) dX12_look_15 (by decide) ?_
    refine wp_icmp_eq (pc := 16) (tgt := 26) dX12_look_16 (by decide) (fun c16 => ?_) (fun c16 => ?_)
    · skip
      refine wp_bipush (pc := 26) (v := (-3)) dX12_look_26 (by decide) ?_
      exact wp_iret (pc := 28) dX12_look_28 rfl ⟨by simp only [f_look, hTx, e1, c5, eq_true c16, if_true, if_false, Bool.true_eq_false, Bool.false_eq_true, reduceIte, reduceCtorEq, Bool.not_true, Bool.not_false, true_and, and_true, and_false, false_and, or_true, true_or, or_false, false_or, not_true_eq_false, not_false_eq_true], by simp only [f_look, hTx, e1, c5, eq_true c16, if_true, if_false, Bool.true_eq_false, Bool.false_eq_true, reduceIte, reduceCtorEq, Bool.not_true, Bool.not_false, true_and, and_true, and_false, false_and, or_true, true_or, or_false, false_or, not_true_eq_false, not_false_eq_true] <;> exact hM, hF⟩
    · obtain ⟨k, hk5, hk⟩ := hLd.resolve_left c16
      refine wp_aload_n (pc := 19) dX12_look_19 rfl rfl ?_
      refine mp_call (pc := 20) [] dX12_look_20 rfl cv_X12_203_13 rfl ⟨(Nat.le_of_ble_eq_true rfl), (Nat.le_of_ble_eq_true rfl)⟩ (Nat.le_of_ble_eq_true rfl) ⟨rfl, rfl⟩ (ms_isMost l G x am _ (by exact hK) hK5) hM hF (fun h hM hF => ?_)
      refine wp_ifB_ne (pc := 23) (tgt := 29) dX12_look_23 (by decide) (fun c23 => ?_) (fun c23 => ?_)
      · skip
        refine wp_aload_n (pc := 29) dX12_look_29 rfl rfl ?_
        refine wp_get (pc := 30) dX12_look_30 fl_X12_178_13 hM.1 rfl ?_
        refine wp_sipush (pc := 33) (v := 400) dX12_look_33 (by decide) ?_
        refine wp_icmp_ne (pc := 36) (tgt := 42) dX12_look_36 (by decide) (fun c36 => ?_) (fun c36 => ?_)
        · have hl4 := eq400 hL4 (by rw [← hL]; exact c36)
          refine wp_aload_n (pc := 42) dX12_look_42 rfl rfl ?_
          refine wp_iload_n (pc := 43) dX12_look_43 rfl rfl ?_
          refine mp_callV (pc := 44) [_] dX12_look_44 rfl cv_X12_285_13 rfl ⟨(Nat.le_of_ble_eq_true rfl), (Nat.le_of_ble_eq_true rfl)⟩ (Nat.le_of_ble_eq_true rfl) ⟨rfl, rfl⟩ (ms_looks l G x am _ _ g q k (by omega) (by exact hg) hg2 (by exact hq) hq2 (by exact hcq) (by exact hk) hk5 (L := L) (by exact hL) (by omega) (by exact hd0)) hM hF (fun h hM hF => ?_)
          refine wp_aload_n (pc := 47) dX12_look_47 rfl rfl ?_
          refine wp_get (pc := 48) dX12_look_48 fl_X12_60_13 hM.1 rfl ?_
          refine wp_iload_n (pc := 51) dX12_look_51 rfl rfl ?_
          refine wp_iald (pc := 52) (i := j) dX12_look_52 (hM.i 21 rfl) ⟨rfl, by omega, by decide⟩ ?_
          exact wp_iret (pc := 53) dX12_look_53 rfl ⟨by simp only [f_look, hTx, e1, c5, eq_false c16, c23, eq_false c36, if_true, if_false, Bool.true_eq_false, Bool.false_eq_true, reduceIte, reduceCtorEq, Bool.not_true, Bool.not_false, true_and, and_true, and_false, false_and, or_true, true_or, or_false, false_or, not_true_eq_false, not_false_eq_true], by simp only [f_look, hTx, e1, c5, eq_false c16, c23, eq_false c36, if_true, if_false, Bool.true_eq_false, Bool.false_eq_true, reduceIte, reduceCtorEq, Bool.not_true, Bool.not_false, true_and, and_true, and_false, false_and, or_true, true_or, or_false, false_or, not_true_eq_false, not_false_eq_true] <;> exact hM, hF⟩
        · skip
          refine wp_bipush (pc := 39) (v := (-4)) dX12_look_39 (by decide) ?_
          exact wp_iret (pc := 41) dX12_look_41 rfl ⟨by simp only [f_look, hTx, e1, c5, eq_false c16, c23, eq_true c36, if_true, if_false, Bool.true_eq_false, Bool.false_eq_true, reduceIte, reduceCtorEq, Bool.not_true, Bool.not_false, true_and, and_true, and_false, false_and, or_true, true_or, or_false, false_or, not_true_eq_false, not_false_eq_true], by simp only [f_look, hTx, e1, c5, eq_false c16, c23, eq_true c36, if_true, if_false, Bool.true_eq_false, Bool.false_eq_true, reduceIte, reduceCtorEq, Bool.not_true, Bool.not_false, true_and, and_true, and_false, false_and, or_true, true_or, or_false, false_or, not_true_eq_false, not_false_eq_true] <;> exact hM, hF⟩
      · skip
        refine wp_bipush (pc := 26) (v := (-3)) dX12_look_26 (by decide) ?_
        exact wp_iret (pc := 28) dX12_look_28 rfl ⟨by simp only [f_look, hTx, e1, c5, eq_false c16, c23, if_true, if_false, Bool.true_eq_false, Bool.false_eq_true, reduceIte, reduceCtorEq, Bool.not_true, Bool.not_false, true_and, and_true, and_false, false_and, or_true, true_or, or_false, false_or, not_true_eq_false, not_false_eq_true], by simp only [f_look, hTx, e1, c5, eq_false c16, c23, if_true, if_false, Bool.true_eq_false, Bool.false_eq_true, reduceIte, reduceCtorEq, Bool.not_true, Bool.not_false, true_and, and_true, and_false, false_and, or_true, true_or, or_false, false_or, not_true_eq_false, not_false_eq_true] <;> exact hM, hF⟩
  · skip
    refine wp_bipush (pc := 8) (v := (-2)) dX12_look_8 (by decide) ?_
    exact wp_iret (pc := 10) dX12_look_10 rfl ⟨by simp only [f_look, hTx, c5, if_true, if_false, Bool.true_eq_false, Bool.false_eq_true, reduceIte, reduceCtorEq, Bool.not_true, Bool.not_false, true_and, and_true, and_false, false_and, or_true, true_or, or_false, false_or, not_true_eq_false, not_false_eq_true], by simp only [f_look, hTx, c5, if_true, if_false, Bool.true_eq_false, Bool.false_eq_true, reduceIte, reduceCtorEq, Bool.not_true, Bool.not_false, true_and, and_true, and_false, false_and, or_true, true_or, or_false, false_or, not_true_eq_false, not_false_eq_true] <;> exact hM, hF⟩
theorem ms_grant (v : Int32) (i : Int32) (what : Int32)  {N : Nat} (hT : M.1 11 = nI N) (hT2 : N ≤ 20) (hTg : ∀ t, t < N → ∃ g : Nat, M.2.1 21 t = nI g ∧ g ≤ 20) : MSp l G x am mX12_grant [.int v, .int i, .int what] M (some (.int (f_grant M v i what))) M := by
  refine MSp.intro (lv := [_, _, _, _, _]) (by decide) rfl (Nat.le_of_ble_eq_true rfl) (fun h0 h hM hF => ?_)
  have hTx : nx (M.1 11) = N := by rw [hT]; exact nx_nI (by omega)
  refine wp_aload_n (pc := 0) dX12_grant_0 rfl rfl ?_
  refine wp_iload_n (pc := 1) dX12_grant_1 rfl rfl ?_
  refine mp_call (pc := 2) [_] dX12_grant_2 rfl cv_X12_214_13 rfl ⟨(Nat.le_of_ble_eq_true rfl), (Nat.le_of_ble_eq_true rfl)⟩ (Nat.le_of_ble_eq_true rfl) ⟨rfl, rfl⟩ (ms_isThing l G x am _ _ (by exact hT) hT2) hM hF (fun h hM hF => ?_)
  refine wp_ifB_eq (pc := 5) (tgt := 17) dX12_grant_5 (by decide) (fun c5 => ?_) (fun c5 => ?_)
  · skip
    refine wp_bipush (pc := 17) (v := (-2)) dX12_grant_17 (by decide) ?_
    exact wp_iret (pc := 19) dX12_grant_19 rfl ⟨by first | (simp only [f_grant, hTx, e1, e2, hgx, c5, if_true, if_false, Bool.true_eq_false, Bool.false_eq_true, reduceIte, reduceCtorEq, Bool.not_true, Bool.not_false, true_and, and_true, and_false, false_and, or_true, true_or, or_false, false_or, not_true_eq_false, not_false_eq_true] <;> rfl) | (simp only [f_grant, hTx, e1, hgx, c5, if_true, if_false, Bool.true_eq_false, Bool.false_eq_true, reduceIte, reduceCtorEq, Bool.not_true, Bool.not_false, true_and, and_true, and_false, false_and, or_true, true_or, or_false, false_or, not_true_eq_false, not_false_eq_true] <;> rfl) | (simp only [f_grant, hTx, c5, if_true, if_false, Bool.true_eq_false, Bool.false_eq_true, reduceIte, reduceCtorEq, Bool.not_true, Bool.not_false, true_and, and_true, and_false, false_and, or_true, true_or, or_false, false_or, not_true_eq_false, not_false_eq_true] <;> rfl), hM, hF⟩
  · obtain ⟨j, hj, rfl⟩ := isIx_t c5 (by omega)
    have e1 : nx (nI j) = j := nx_nI (by omega)
    obtain ⟨g, hg, hg2⟩ := hTg j hj
    have hgx : nx (M.2.1 21 j) = g := by rw [hg]; exact nx_nI (by omega)
    refine wp_iload_n (pc := 8) dX12_grant_8 rfl rfl ?_
    refine wp_iconst (pc := 9) (v := 0) dX12_grant_9 (by decide) ?_
    refine wp_iconst (pc := 10) (v := 2) dX12_grant_10 (by decide) ?_
    refine mp_callS (pc := 11) [_, _, _] dX12_grant_11 rfl cs_X12_153 rfl ⟨(Nat.le_of_ble_eq_true rfl), (Nat.le_of_ble_eq_true rfl)⟩ (Nat.le_of_ble_eq_true rfl) ⟨rfl, rfl⟩ (ms_in l G _ _ _ h) ?_
    refine wp_ifB_ne (pc := 14) (tgt := 20) dX12_grant_14 (by decide) (fun c14 => ?_) (fun c14 => ?_)
    · skip
      refine wp_iload_n (pc := 20) dX12_grant_20 rfl rfl ?_
      refine wp_iconst (pc := 21) (v := 0) dX12_grant_21 (by decide) ?_
      refine wp_aload_n (pc := 22) dX12_grant_22 rfl rfl ?_
      refine wp_get (pc := 23) dX12_grant_23 fl_X12_60_13 hM.1 rfl ?_
      refine wp_iload_n (pc := 26) dX12_grant_26 rfl rfl ?_
      refine wp_iald (pc := 27) (i := j) dX12_grant_27 (hM.i 21 rfl) ⟨rfl, by omega, by decide⟩ ?_
      refine wp_iconst (pc := 28) (v := 1) dX12_grant_28 (by decide) ?_
      refine wp_isub (pc := 29) dX12_grant_29 ?_
      refine mp_callS (pc := 30) [_, _, _] dX12_grant_30 rfl cs_X12_153 rfl ⟨(Nat.le_of_ble_eq_true rfl), (Nat.le_of_ble_eq_true rfl)⟩ (Nat.le_of_ble_eq_true rfl) ⟨rfl, rfl⟩ (ms_in l G _ _ _ h) ?_
      refine wp_ifB_ne (pc := 33) (tgt := 38) dX12_grant_33 (by decide) (fun c33 => ?_) (fun c33 => ?_)
      · rw [hg, fin_ix i (by omega)] at c33
        obtain ⟨a, ha, rfl⟩ := isIx_t c33 (by omega)
        have e2 : nx (nI a) = a := nx_nI (by omega)
        refine wp_bipush (pc := 38) (v := 20) dX12_grant_38 (by decide) ?_
        refine wp_iload_n (pc := 40) dX12_grant_40 rfl rfl ?_
        refine wp_imul (pc := 41) dX12_grant_41 ?_
        refine wp_iload_n (pc := 42) dX12_grant_42 rfl rfl ?_
        refine wp_iadd (pc := 43) dX12_grant_43 ?_
        refine wp_istore (pc := 44) (lv' := [_, _, _, _, _]) dX12_grant_44 (Nat.le_of_ble_eq_true rfl) rfl rfl ?_
        refine wp_iload_n (pc := 46) dX12_grant_46 rfl rfl ?_
        refine wp_if_ne (pc := 47) (tgt := 60) dX12_grant_47 (by decide) (fun c47 => ?_) (fun c47 => ?_)
        · skip
          refine wp_iload_n (pc := 60) dX12_grant_60 rfl rfl ?_
          refine wp_iconst (pc := 61) (v := 1) dX12_grant_61 (by decide) ?_
          refine wp_icmp_ne (pc := 62) (tgt := 75) dX12_grant_62 (by decide) (fun c62 => ?_) (fun c62 => ?_)
          · skip
            refine wp_aload_n (pc := 75) dX12_grant_75 rfl rfl ?_
            refine wp_get (pc := 76) dX12_grant_76 fl_X12_69_13 hM.1 rfl ?_
            refine wp_iload (pc := 79) dX12_grant_79 rfl ?_
            refine wp_iald (pc := 81) (i := ((20 * j) + a)) dX12_grant_81 (hM.i 24 rfl) ⟨by simp only [nl1, nl5, nl8, nl20, pk_mul, nI_add], by omega, by decide⟩ ?_
            exact wp_iret (pc := 82) dX12_grant_82 rfl ⟨by first | (simp only [f_grant, hTx, e1, e2, hgx, c5, c14, c33, eq_false c47, eq_false c62, if_true, if_false, Bool.true_eq_false, Bool.false_eq_true, reduceIte, reduceCtorEq, Bool.not_true, Bool.not_false, true_and, and_true, and_false, false_and, or_true, true_or, or_false, false_or, not_true_eq_false, not_false_eq_true] <;> rfl) | (simp only [f_grant, hTx, e1, hgx, c5, c14, c33, eq_false c47, eq_false c62, if_true, if_false, Bool.true_eq_false, Bool.false_eq_true, reduceIte, reduceCtorEq, Bool.not_true, Bool.not_false, true_and, and_true, and_false, false_and, or_true, true_or, or_false, false_or, not_true_eq_false, not_false_eq_true] <;> rfl) | (simp only [f_grant, hTx, c5, c14, c33, eq_false c47, eq_false c62, if_true, if_false, Bool.true_eq_false, Bool.false_eq_true, reduceIte, reduceCtorEq, Bool.not_true, Bool.not_false, true_and, and_true, and_false, false_and, or_true, true_or, or_false, false_or, not_true_eq_false, not_false_eq_true] <;> rfl), hM, hF⟩
          · skip
            refine wp_aload_n (pc := 65) dX12_grant_65 rfl rfl ?_
            refine wp_get (pc := 66) dX12_grant_66 fl_X12_66_13 hM.1 rfl ?_
            refine wp_iload (pc := 69) dX12_grant_69 rfl ?_
            refine wp_iald (pc := 71) (i := ((20 * j) + a)) dX12_grant_71 (hM.i 23 rfl) ⟨by simp only [nl1, nl5, nl8, nl20, pk_mul, nI_add], by omega, by decide⟩ ?_
            refine wp_goto (pc := 72) (tgt := 82) dX12_grant_72 (by decide) ?_
            exact wp_iret (pc := 82) dX12_grant_82 rfl ⟨by first | (simp only [f_grant, hTx, e1, e2, hgx, c5, c14, c33, eq_false c47, eq_true c62, if_true, if_false, Bool.true_eq_false, Bool.false_eq_true, reduceIte, reduceCtorEq, Bool.not_true, Bool.not_false, true_and, and_true, and_false, false_and, or_true, true_or, or_false, false_or, not_true_eq_false, not_false_eq_true] <;> rfl) | (simp only [f_grant, hTx, e1, hgx, c5, c14, c33, eq_false c47, eq_true c62, if_true, if_false, Bool.true_eq_false, Bool.false_eq_true, reduceIte, reduceCtorEq, Bool.not_true, Bool.not_false, true_and, and_true, and_false, false_and, or_true, true_or, or_false, false_or, not_true_eq_false, not_false_eq_true] <;> rfl) | (simp only [f_grant, hTx, c5, c14, c33, eq_false c47, eq_true c62, if_true, if_false, Bool.true_eq_false, Bool.false_eq_true, reduceIte, reduceCtorEq, Bool.not_true, Bool.not_false, true_and, and_true, and_false, false_and, or_true, true_or, or_false, false_or, not_true_eq_false, not_false_eq_true] <;> rfl), hM, hF⟩
        · skip
          refine wp_aload_n (pc := 50) dX12_grant_50 rfl rfl ?_
          refine wp_get (pc := 51) dX12_grant_51 fl_X12_63_13 hM.1 rfl ?_
          refine wp_iload (pc := 54) dX12_grant_54 rfl ?_
          refine wp_iald (pc := 56) (i := ((20 * j) + a)) dX12_grant_56 (hM.i 22 rfl) ⟨by simp only [nl1, nl5, nl8, nl20, pk_mul, nI_add], by omega, by decide⟩ ?_
          refine wp_goto (pc := 57) (tgt := 82) dX12_grant_57 (by decide) ?_
          exact wp_iret (pc := 82) dX12_grant_82 rfl ⟨by first | (simp only [f_grant, hTx, e1, e2, hgx, c5, c14, c33, eq_true c47, if_true, if_false, Bool.true_eq_false, Bool.false_eq_true, reduceIte, reduceCtorEq, Bool.not_true, Bool.not_false, true_and, and_true, and_false, false_and, or_true, true_or, or_false, false_or, not_true_eq_false, not_false_eq_true] <;> rfl) | (simp only [f_grant, hTx, e1, hgx, c5, c14, c33, eq_true c47, if_true, if_false, Bool.true_eq_false, Bool.false_eq_true, reduceIte, reduceCtorEq, Bool.not_true, Bool.not_false, true_and, and_true, and_false, false_and, or_true, true_or, or_false, false_or, not_true_eq_false, not_false_eq_true] <;> rfl) | (simp only [f_grant, hTx, c5, c14, c33, eq_true c47, if_true, if_false, Bool.true_eq_false, Bool.false_eq_true, reduceIte, reduceCtorEq, Bool.not_true, Bool.not_false, true_and, and_true, and_false, false_and, or_true, true_or, or_false, false_or, not_true_eq_false, not_false_eq_true] <;> rfl), hM, hF⟩
      · rw [hg, fin_ix i (by omega)] at c33
        refine wp_iconst (pc := 36) (v := (-1)) dX12_grant_36 (by decide) ?_
        exact wp_iret (pc := 37) dX12_grant_37 rfl ⟨by first | (simp only [f_grant, hTx, e1, e2, hgx, c5, c14, c33, if_true, if_false, Bool.true_eq_false, Bool.false_eq_true, reduceIte, reduceCtorEq, Bool.not_true, Bool.not_false, true_and, and_true, and_false, false_and, or_true, true_or, or_false, false_or, not_true_eq_false, not_false_eq_true] <;> rfl) | (simp only [f_grant, hTx, e1, hgx, c5, c14, c33, if_true, if_false, Bool.true_eq_false, Bool.false_eq_true, reduceIte, reduceCtorEq, Bool.not_true, Bool.not_false, true_and, and_true, and_false, false_and, or_true, true_or, or_false, false_or, not_true_eq_false, not_false_eq_true] <;> rfl) | (simp only [f_grant, hTx, c5, c14, c33, if_true, if_false, Bool.true_eq_false, Bool.false_eq_true, reduceIte, reduceCtorEq, Bool.not_true, Bool.not_false, true_and, and_true, and_false, false_and, or_true, true_or, or_false, false_or, not_true_eq_false, not_false_eq_true] <;> rfl), hM, hF⟩
    · skip
      refine wp_bipush (pc := 17) (v := (-2)) dX12_grant_17 (by decide) ?_
      exact wp_iret (pc := 19) dX12_grant_19 rfl ⟨by first | (simp only [f_grant, hTx, e1, e2, hgx, c5, c14, if_true, if_false, Bool.true_eq_false, Bool.false_eq_true, reduceIte, reduceCtorEq, Bool.not_true, Bool.not_false, true_and, and_true, and_false, false_and, or_true, true_or, or_false, false_or, not_true_eq_false, not_false_eq_true] <;> rfl) | (simp only [f_grant, hTx, e1, hgx, c5, c14, if_true, if_false, Bool.true_eq_false, Bool.false_eq_true, reduceIte, reduceCtorEq, Bool.not_true, Bool.not_false, true_and, and_true, and_false, false_and, or_true, true_or, or_false, false_or, not_true_eq_false, not_false_eq_true] <;> rfl) | (simp only [f_grant, hTx, c5, c14, if_true, if_false, Bool.true_eq_false, Bool.false_eq_true, reduceIte, reduceCtorEq, Bool.not_true, Bool.not_false, true_and, and_true, and_false, false_and, or_true, true_or, or_false, false_or, not_true_eq_false, not_false_eq_true] <;> rfl), hM, hF⟩
theorem ms_ends (v : Int32) (i : Int32) (what : Int32)  {N : Nat} (hT : M.1 11 = nI N) (hT2 : N ≤ 20) (hTg : ∀ t, t < N → ∃ g : Nat, M.2.1 21 t = nI g ∧ g ≤ 20) : MSp l G x am mX12_ends [.int v, .int i, .int what] M (some (.long (f_ends M v i what))) M := by
  refine MSp.intro (lv := [_, _, _, _]) (by decide) rfl (Nat.le_of_ble_eq_true rfl) (fun h0 h hM hF => ?_)
  have hTx : nx (M.1 11) = N := by rw [hT]; exact nx_nI (by omega)
  refine wp_aload_n (pc := 0) dX12_ends_0 rfl rfl ?_
  refine wp_iload_n (pc := 1) dX12_ends_1 rfl rfl ?_
  refine mp_call (pc := 2) [_] dX12_ends_2 rfl cv_X12_214_13 rfl ⟨(Nat.le_of_ble_eq_true rfl), (Nat.le_of_ble_eq_true rfl)⟩ (Nat.le_of_ble_eq_true rfl) ⟨rfl, rfl⟩ (ms_isThing l G x am _ _ (by exact hT) hT2) hM hF (fun h hM hF => ?_)
  refine wp_ifB_eq (pc := 5) (tgt := 33) dX12_ends_5 (by decide) (fun c5 => ?_) (fun c5 => ?_)
  · skip
    refine wp_ldc2_w (pc := 33) dX12_ends_33 w6_61 ?_
    exact wp_lret (pc := 36) dX12_ends_36 rfl ⟨by first | (simp only [f_ends, hTx, e1, e2, hgx, c5, if_true, if_false, Bool.true_eq_false, Bool.false_eq_true, reduceIte, reduceCtorEq, Bool.not_true, Bool.not_false, true_and, and_true, and_false, false_and, or_true, true_or, or_false, false_or, not_true_eq_false, not_false_eq_true] <;> rfl) | (simp only [f_ends, hTx, e1, hgx, c5, if_true, if_false, Bool.true_eq_false, Bool.false_eq_true, reduceIte, reduceCtorEq, Bool.not_true, Bool.not_false, true_and, and_true, and_false, false_and, or_true, true_or, or_false, false_or, not_true_eq_false, not_false_eq_true] <;> rfl) | (simp only [f_ends, hTx, c5, if_true, if_false, Bool.true_eq_false, Bool.false_eq_true, reduceIte, reduceCtorEq, Bool.not_true, Bool.not_false, true_and, and_true, and_false, false_and, or_true, true_or, or_false, false_or, not_true_eq_false, not_false_eq_true] <;> rfl), hM, hF⟩
  · obtain ⟨j, hj, rfl⟩ := isIx_t c5 (by omega)
    have e1 : nx (nI j) = j := nx_nI (by omega)
    obtain ⟨g, hg, hg2⟩ := hTg j hj
    have hgx : nx (M.2.1 21 j) = g := by rw [hg]; exact nx_nI (by omega)
    refine wp_iload_n (pc := 8) dX12_ends_8 rfl rfl ?_
    refine wp_iconst (pc := 9) (v := 0) dX12_ends_9 (by decide) ?_
    refine wp_iconst (pc := 10) (v := 1) dX12_ends_10 (by decide) ?_
    refine mp_callS (pc := 11) [_, _, _] dX12_ends_11 rfl cs_X12_153 rfl ⟨(Nat.le_of_ble_eq_true rfl), (Nat.le_of_ble_eq_true rfl)⟩ (Nat.le_of_ble_eq_true rfl) ⟨rfl, rfl⟩ (ms_in l G _ _ _ h) ?_
    refine wp_ifB_eq (pc := 14) (tgt := 33) dX12_ends_14 (by decide) (fun c14 => ?_) (fun c14 => ?_)
    · skip
      refine wp_ldc2_w (pc := 33) dX12_ends_33 w6_61 ?_
      exact wp_lret (pc := 36) dX12_ends_36 rfl ⟨by first | (simp only [f_ends, hTx, e1, e2, hgx, c5, c14, if_true, if_false, Bool.true_eq_false, Bool.false_eq_true, reduceIte, reduceCtorEq, Bool.not_true, Bool.not_false, true_and, and_true, and_false, false_and, or_true, true_or, or_false, false_or, not_true_eq_false, not_false_eq_true] <;> rfl) | (simp only [f_ends, hTx, e1, hgx, c5, c14, if_true, if_false, Bool.true_eq_false, Bool.false_eq_true, reduceIte, reduceCtorEq, Bool.not_true, Bool.not_false, true_and, and_true, and_false, false_and, or_true, true_or, or_false, false_or, not_true_eq_false, not_false_eq_true] <;> rfl) | (simp only [f_ends, hTx, c5, c14, if_true, if_false, Bool.true_eq_false, Bool.false_eq_true, reduceIte, reduceCtorEq, Bool.not_true, Bool.not_false, true_and, and_true, and_false, false_and, or_true, true_or, or_false, false_or, not_true_eq_false, not_false_eq_true] <;> rfl), hM, hF⟩
    · skip
      refine wp_iload_n (pc := 17) dX12_ends_17 rfl rfl ?_
      refine wp_iconst (pc := 18) (v := 0) dX12_ends_18 (by decide) ?_
      refine wp_aload_n (pc := 19) dX12_ends_19 rfl rfl ?_
      refine wp_get (pc := 20) dX12_ends_20 fl_X12_60_13 hM.1 rfl ?_
      refine wp_iload_n (pc := 23) dX12_ends_23 rfl rfl ?_
      refine wp_iald (pc := 24) (i := j) dX12_ends_24 (hM.i 21 rfl) ⟨rfl, by omega, by decide⟩ ?_
      refine wp_iconst (pc := 25) (v := 1) dX12_ends_25 (by decide) ?_
      refine wp_isub (pc := 26) dX12_ends_26 ?_
      refine mp_callS (pc := 27) [_, _, _] dX12_ends_27 rfl cs_X12_153 rfl ⟨(Nat.le_of_ble_eq_true rfl), (Nat.le_of_ble_eq_true rfl)⟩ (Nat.le_of_ble_eq_true rfl) ⟨rfl, rfl⟩ (ms_in l G _ _ _ h) ?_
      refine wp_ifB_ne (pc := 30) (tgt := 37) dX12_ends_30 (by decide) (fun c30 => ?_) (fun c30 => ?_)
      · rw [hg, fin_ix i (by omega)] at c30
        obtain ⟨a, ha, rfl⟩ := isIx_t c30 (by omega)
        have e2 : nx (nI a) = a := nx_nI (by omega)
        refine wp_iload_n (pc := 37) dX12_ends_37 rfl rfl ?_
        refine wp_if_ne (pc := 38) (tgt := 55) dX12_ends_38 (by decide) (fun c38 => ?_) (fun c38 => ?_)
        · skip
          refine wp_aload_n (pc := 55) dX12_ends_55 rfl rfl ?_
          refine wp_get (pc := 56) dX12_ends_56 fl_X12_75_13 hM.1 rfl ?_
          refine wp_bipush (pc := 59) (v := 20) dX12_ends_59 (by decide) ?_
          refine wp_iload_n (pc := 61) dX12_ends_61 rfl rfl ?_
          refine wp_imul (pc := 62) dX12_ends_62 ?_
          refine wp_iload_n (pc := 63) dX12_ends_63 rfl rfl ?_
          refine wp_iadd (pc := 64) dX12_ends_64 ?_
          refine wp_lald (pc := 65) (i := ((20 * j) + a)) dX12_ends_65 (hM.j 26 rfl) ⟨by simp only [nl1, nl5, nl8, nl20, pk_mul, nI_add], by omega, by decide⟩ ?_
          exact wp_lret (pc := 66) dX12_ends_66 rfl ⟨by first | (simp only [f_ends, hTx, e1, e2, hgx, c5, c14, c30, eq_false c38, if_true, if_false, Bool.true_eq_false, Bool.false_eq_true, reduceIte, reduceCtorEq, Bool.not_true, Bool.not_false, true_and, and_true, and_false, false_and, or_true, true_or, or_false, false_or, not_true_eq_false, not_false_eq_true] <;> rfl) | (simp only [f_ends, hTx, e1, hgx, c5, c14, c30, eq_false c38, if_true, if_false, Bool.true_eq_false, Bool.false_eq_true, reduceIte, reduceCtorEq, Bool.not_true, Bool.not_false, true_and, and_true, and_false, false_and, or_true, true_or, or_false, false_or, not_true_eq_false, not_false_eq_true] <;> rfl) | (simp only [f_ends, hTx, c5, c14, c30, eq_false c38, if_true, if_false, Bool.true_eq_false, Bool.false_eq_true, reduceIte, reduceCtorEq, Bool.not_true, Bool.not_false, true_and, and_true, and_false, false_and, or_true, true_or, or_false, false_or, not_true_eq_false, not_false_eq_true] <;> rfl), hM, hF⟩
        · skip
          refine wp_aload_n (pc := 41) dX12_ends_41 rfl rfl ?_
          refine wp_get (pc := 42) dX12_ends_42 fl_X12_72_13 hM.1 rfl ?_
          refine wp_bipush (pc := 45) (v := 20) dX12_ends_45 (by decide) ?_
          refine wp_iload_n (pc := 47) dX12_ends_47 rfl rfl ?_
          refine wp_imul (pc := 48) dX12_ends_48 ?_
          refine wp_iload_n (pc := 49) dX12_ends_49 rfl rfl ?_
          refine wp_iadd (pc := 50) dX12_ends_50 ?_
          refine wp_lald (pc := 51) (i := ((20 * j) + a)) dX12_ends_51 (hM.j 25 rfl) ⟨by simp only [nl1, nl5, nl8, nl20, pk_mul, nI_add], by omega, by decide⟩ ?_
          refine wp_goto (pc := 52) (tgt := 66) dX12_ends_52 (by decide) ?_
          exact wp_lret (pc := 66) dX12_ends_66 rfl ⟨by first | (simp only [f_ends, hTx, e1, e2, hgx, c5, c14, c30, eq_true c38, if_true, if_false, Bool.true_eq_false, Bool.false_eq_true, reduceIte, reduceCtorEq, Bool.not_true, Bool.not_false, true_and, and_true, and_false, false_and, or_true, true_or, or_false, false_or, not_true_eq_false, not_false_eq_true] <;> rfl) | (simp only [f_ends, hTx, e1, hgx, c5, c14, c30, eq_true c38, if_true, if_false, Bool.true_eq_false, Bool.false_eq_true, reduceIte, reduceCtorEq, Bool.not_true, Bool.not_false, true_and, and_true, and_false, false_and, or_true, true_or, or_false, false_or, not_true_eq_false, not_false_eq_true] <;> rfl) | (simp only [f_ends, hTx, c5, c14, c30, eq_true c38, if_true, if_false, Bool.true_eq_false, Bool.false_eq_true, reduceIte, reduceCtorEq, Bool.not_true, Bool.not_false, true_and, and_true, and_false, false_and, or_true, true_or, or_false, false_or, not_true_eq_false, not_false_eq_true] <;> rfl), hM, hF⟩
      · rw [hg, fin_ix i (by omega)] at c30
        refine wp_ldc2_w (pc := 33) dX12_ends_33 w6_61 ?_
        exact wp_lret (pc := 36) dX12_ends_36 rfl ⟨by first | (simp only [f_ends, hTx, e1, e2, hgx, c5, c14, c30, if_true, if_false, Bool.true_eq_false, Bool.false_eq_true, reduceIte, reduceCtorEq, Bool.not_true, Bool.not_false, true_and, and_true, and_false, false_and, or_true, true_or, or_false, false_or, not_true_eq_false, not_false_eq_true] <;> rfl) | (simp only [f_ends, hTx, e1, hgx, c5, c14, c30, if_true, if_false, Bool.true_eq_false, Bool.false_eq_true, reduceIte, reduceCtorEq, Bool.not_true, Bool.not_false, true_and, and_true, and_false, false_and, or_true, true_or, or_false, false_or, not_true_eq_false, not_false_eq_true] <;> rfl) | (simp only [f_ends, hTx, c5, c14, c30, if_true, if_false, Bool.true_eq_false, Bool.false_eq_true, reduceIte, reduceCtorEq, Bool.not_true, Bool.not_false, true_and, and_true, and_false, false_and, or_true, true_or, or_false, false_or, not_true_eq_false, not_false_eq_true] <;> rfl), hM, hF⟩
theorem ms_may  (w : Nat) (t : Nat) (hw : w < 20) (ht : t < 20) : MSp l G x am mX12_may [.int (nI w), .int (nI t)] M (some (.int (bi (mayB M w t)))) M := by
  refine MSp.intro (lv := [_, _, _]) (by decide) rfl (Nat.le_of_ble_eq_true rfl) (fun h0 h hM hF => ?_)
  refine wp_aload_n (pc := 0) dX12_may_0 rfl rfl ?_
  refine wp_get (pc := 1) dX12_may_1 fl_X12_29_13 hM.1 rfl ?_
  refine wp_iload_n (pc := 4) dX12_may_4 rfl rfl ?_
  refine wp_zald (pc := 5) (i := w) dX12_may_5 (hM.z 10 rfl) ⟨rfl, by omega, by decide⟩ ?_
  refine wp_if_eq (pc := 6) (tgt := 47) dX12_may_6 (by decide) (fun c6 => ?_) (fun c6 => ?_)
  · skip
    refine wp_iconst (pc := 47) (v := 0) dX12_may_47 (by decide) ?_
    exact wp_zret (pc := 48) dX12_may_48 rfl (by decide) ⟨by simp only [mayB, bi, eq_true c6, if_true, if_false, Bool.true_eq_false, Bool.false_eq_true, reduceIte, reduceCtorEq, Bool.not_true, Bool.not_false, true_and, and_true, and_false, false_and, or_true, true_or, or_false, false_or, not_true_eq_false, not_false_eq_true], hM, hF⟩
  · skip
    refine wp_aload_n (pc := 9) dX12_may_9 rfl rfl ?_
    refine wp_get (pc := 10) dX12_may_10 fl_X12_82_13 hM.1 rfl ?_
    refine wp_bipush (pc := 13) (v := 20) dX12_may_13 (by decide) ?_
    refine wp_iload_n (pc := 15) dX12_may_15 rfl rfl ?_
    refine wp_imul (pc := 16) dX12_may_16 ?_
    refine wp_iload_n (pc := 17) dX12_may_17 rfl rfl ?_
    refine wp_iadd (pc := 18) dX12_may_18 ?_
    refine wp_zald (pc := 19) (i := ((20 * w) + t)) dX12_may_19 (hM.z 29 rfl) ⟨by simp only [nl1, nl5, nl8, nl20, pk_mul, nI_add], by omega, by decide⟩ ?_
    refine wp_if_eq (pc := 20) (tgt := 47) dX12_may_20 (by decide) (fun c20 => ?_) (fun c20 => ?_)
    · skip
      refine wp_iconst (pc := 47) (v := 0) dX12_may_47 (by decide) ?_
      exact wp_zret (pc := 48) dX12_may_48 rfl (by decide) ⟨by simp only [mayB, bi, eq_false c6, eq_true c20, if_true, if_false, Bool.true_eq_false, Bool.false_eq_true, reduceIte, reduceCtorEq, Bool.not_true, Bool.not_false, true_and, and_true, and_false, false_and, or_true, true_or, or_false, false_or, not_true_eq_false, not_false_eq_true], hM, hF⟩
    · skip
      refine wp_aload_n (pc := 23) dX12_may_23 rfl rfl ?_
      refine wp_iload_n (pc := 24) dX12_may_24 rfl rfl ?_
      refine mp_call (pc := 25) [_] dX12_may_25 rfl cv_X12_194_13 rfl ⟨(Nat.le_of_ble_eq_true rfl), (Nat.le_of_ble_eq_true rfl)⟩ (Nat.le_of_ble_eq_true rfl) ⟨rfl, rfl⟩ (ms_wClock l G x am _ _ (by omega)) hM hF (fun h hM hF => ?_)
      refine wp_aload_n (pc := 28) dX12_may_28 rfl rfl ?_
      refine wp_get (pc := 29) dX12_may_29 fl_X12_97_13 hM.1 rfl ?_
      refine wp_bipush (pc := 32) (v := 20) dX12_may_32 (by decide) ?_
      refine wp_iload_n (pc := 34) dX12_may_34 rfl rfl ?_
      refine wp_imul (pc := 35) dX12_may_35 ?_
      refine wp_iload_n (pc := 36) dX12_may_36 rfl rfl ?_
      refine wp_iadd (pc := 37) dX12_may_37 ?_
      refine wp_lald (pc := 38) (i := ((20 * w) + t)) dX12_may_38 (hM.j 34 rfl) ⟨by simp only [nl1, nl5, nl8, nl20, pk_mul, nI_add], by omega, by decide⟩ ?_
      refine wp_lcmp_ge (pc := 39) (tgt := 47) dX12_may_39 dX12_may_40 (by decide) (fun c39 => ?_) (fun c39 => ?_)
      · skip
        refine wp_iconst (pc := 47) (v := 0) dX12_may_47 (by decide) ?_
        exact wp_zret (pc := 48) dX12_may_48 rfl (by decide) ⟨by simp only [mayB, bi, eq_false c6, eq_false c20, eq_true c39, if_true, if_false, Bool.true_eq_false, Bool.false_eq_true, reduceIte, reduceCtorEq, Bool.not_true, Bool.not_false, true_and, and_true, and_false, false_and, or_true, true_or, or_false, false_or, not_true_eq_false, not_false_eq_true], hM, hF⟩
      · skip
        refine wp_iconst (pc := 43) (v := 1) dX12_may_43 (by decide) ?_
        refine wp_goto (pc := 44) (tgt := 48) dX12_may_44 (by decide) ?_
        exact wp_zret (pc := 48) dX12_may_48 rfl (by decide) ⟨by simp only [mayB, bi, eq_false c6, eq_false c20, eq_false c39, if_true, if_false, Bool.true_eq_false, Bool.false_eq_true, reduceIte, reduceCtorEq, Bool.not_true, Bool.not_false, true_and, and_true, and_false, false_and, or_true, true_or, or_false, false_or, not_true_eq_false, not_false_eq_true], hM, hF⟩
theorem ms_mays (t : Nat) {W : Nat} (hW : M.1 6 = nI W) (hW2 : W ≤ 20) (ht : t < 20) : MSp l G x am mX12_mays [.int (nI t)] M (some (.int (mysN M t W))) (M) := by
  refine MSp.intro (lv := [_, _, _, _]) (by decide) rfl (Nat.le_of_ble_eq_true rfl) (fun h0 h hM hF => ?_)
  generalize hQ0 : (fun (w9 : Option Value) (h' : Hp) => w9 = (some (.int (mysN M t W))) ∧ InM x am (M) h' ∧ Fr x am h0 h') = Q0
  have loop : ∀ i, i ≤ W → ∀ h, InM x am (M) h → Fr x am h0 h → wp l G mX12_mays (zM G mX12_mays Q0) 4 [some (.ref x), some (.int (nI t)), some (.int (mysN M t i)), some (.int (nI i))] [] h 0 0 := by
    refine loopU _ W (fun i hi ih => ?_) ?_
    · intro h hM hF
      refine wp_iload_n (pc := 4) dX12_mays_4 rfl rfl ?_
      refine wp_aload_n (pc := 5) dX12_mays_5 rfl rfl ?_
      refine wp_get (pc := 6) dX12_mays_6 fl_X12_164_13 hM.1 rfl ?_
      refine wp_icmp_ge (pc := 9) (tgt := 35) dX12_mays_9 (by decide) (fun z => absurd z (by rw [hW]; exact nI_ge hi (by omega))) (fun _ => ?_)
      refine wp_iload_n (pc := 12) dX12_mays_12 rfl rfl ?_
      refine wp_aload_n (pc := 13) dX12_mays_13 rfl rfl ?_
      refine wp_iload_n (pc := 14) dX12_mays_14 rfl rfl ?_
      refine wp_iload_n (pc := 15) dX12_mays_15 rfl rfl ?_
      refine mp_call (pc := 16) [_, _] dX12_mays_16 rfl cv_X12_303_13 rfl ⟨(Nat.le_of_ble_eq_true rfl), (Nat.le_of_ble_eq_true rfl)⟩ (Nat.le_of_ble_eq_true rfl) ⟨rfl, rfl⟩ (ms_may l G x am _ _ _ (by omega) (by omega)) hM hF (fun h hM hF => ?_)
      refine wp_ifB_eq (pc := 19) (tgt := 26) dX12_mays_19 (by decide) (fun c19 => ?_) (fun c19 => ?_)
      · skip
        refine wp_iconst (pc := 26) (v := 0) dX12_mays_26 (by decide) ?_
        refine wp_iadd (pc := 27) dX12_mays_27 ?_
        refine wp_istore_n (pc := 28) (lv' := [_, _, _, _]) dX12_mays_28 rfl (Nat.le_of_ble_eq_true rfl) rfl rfl ?_
        refine wp_iinc (pc := 29) (v := _ + 1) (lv' := [_, _, _, _]) dX12_mays_29 rfl rfl rfl rfl ?_
        refine wp_goto (pc := 32) (tgt := 4) dX12_mays_32 (by decide) ?_
        exact wp_lv (ih h hM hF) (by simp [mysN, bi, nI_1, c19])
      · skip
        refine wp_iconst (pc := 22) (v := 1) dX12_mays_22 (by decide) ?_
        refine wp_goto (pc := 23) (tgt := 27) dX12_mays_23 (by decide) ?_
        refine wp_iadd (pc := 27) dX12_mays_27 ?_
        refine wp_istore_n (pc := 28) (lv' := [_, _, _, _]) dX12_mays_28 rfl (Nat.le_of_ble_eq_true rfl) rfl rfl ?_
        refine wp_iinc (pc := 29) (v := _ + 1) (lv' := [_, _, _, _]) dX12_mays_29 rfl rfl rfl rfl ?_
        refine wp_goto (pc := 32) (tgt := 4) dX12_mays_32 (by decide) ?_
        exact wp_lv (ih h hM hF) (by simp [mysN, bi, nI_1, c19])
    · intro h hM hF
      refine wp_iload_n (pc := 4) dX12_mays_4 rfl rfl ?_
      refine wp_aload_n (pc := 5) dX12_mays_5 rfl rfl ?_
      refine wp_get (pc := 6) dX12_mays_6 fl_X12_164_13 hM.1 rfl ?_
      refine wp_icmp_ge (pc := 9) (tgt := 35) dX12_mays_9 (by decide) (fun _ => ?_) (fun z => absurd (by rw [hW]; exact nI_le (Nat.le_refl _) (by omega)) z)
      refine wp_iload_n (pc := 35) dX12_mays_35 rfl rfl ?_
      exact wp_iret (pc := 36) dX12_mays_36 rfl (by rw [← hQ0]; exact ⟨rfl, hM, hF⟩)
  refine wp_iconst (pc := 0) (v := 0) dX12_mays_0 (by decide) ?_
  refine wp_istore_n (pc := 1) (lv' := [_, _, _, _]) dX12_mays_1 rfl (Nat.le_of_ble_eq_true rfl) rfl rfl ?_
  refine wp_iconst (pc := 2) (v := 0) dX12_mays_2 (by decide) ?_
  refine wp_istore_n (pc := 3) (lv' := [_, _, _, _]) dX12_mays_3 rfl (Nat.le_of_ble_eq_true rfl) rfl rfl ?_
  exact loop 0 (Nat.zero_le _) h hM hF
end M8
