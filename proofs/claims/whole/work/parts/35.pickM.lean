/-! THE REFERENCE: find, the search for the next event -/
theorem gE_same {b : Nat → Nat → Int32} {g : Nat → Int32} {ev ms fi e1 st nx : Nat} (hb : ev - 16 ≤ e1) (h1 : e1 < nx) (h2 : nx < ev) (hst : st < ms) (hms : ms ≤ 5) (hsy : g 2 = 0 ∨ g 2 = 1) :
    gE b g ev ms fi (5 * (e1 - (ev - 16)) + st) (5 * (nx - (ev - 16)) + st) = (!decide (b 6 st = 0) && ((decide (g 2 = 1) || decide (nx = e1 + 1)) && mFit1 b g nx st e1 fi)) := by
  unfold gE
  rw [show (5 * (e1 - (ev - 16)) + st) / 5 = e1 - (ev - 16) by omega, show (5 * (e1 - (ev - 16)) + st) % 5 = st by omega, show (5 * (nx - (ev - 16)) + st) / 5 = nx - (ev - 16) by omega, show (5 * (nx - (ev - 16)) + st) % 5 = st by omega, show (ev - 16) + (e1 - (ev - 16)) = e1 by omega, show (ev - 16) + (nx - (ev - 16)) = nx by omega]
  rw [decide_eq_true (show e1 - (ev - 16) < nx - (ev - 16) by omega), decide_eq_true hst, decide_eq_true (rfl : st = st), decide_eq_false (show ¬ st = st + 1 by omega), Bool.or_false, Bool.true_and, Bool.true_and, Bool.true_and, Bool.true_and]
  have e : decide (nx < mEnd g ev e1) = (decide (g 2 = 1) || decide (nx = e1 + 1)) := by
    unfold mEnd
    rcases hsy with h | h
    · rw [h, decide_eq_false (show ¬ (0 : Int32) = 1 by decide), Bool.false_or]
      split
      · by_cases h3 : nx = e1 + 1
        · rw [decide_eq_true h3, decide_eq_true (by omega)]
        · rw [decide_eq_false h3, decide_eq_false (by omega)]
      · rename_i h4
        have h5 : ¬ e1 + 2 < ev := fun q => h4 ⟨rfl, q⟩
        rw [decide_eq_true h2, decide_eq_true (show nx = e1 + 1 by omega)]
    · rw [h, decide_eq_true (rfl : (1 : Int32) = 1), Bool.true_or, if_neg (fun q => absurd q.1 (by decide)), decide_eq_true h2]
  rw [e]
  cases decide (g 2 = 1) || decide (nx = e1 + 1) <;> cases mFit1 b g nx st e1 fi <;> cases decide (b 6 st = 0) <;> rfl
theorem gE_next {b : Nat → Nat → Int32} {g : Nat → Int32} {ev ms fi e1 st nx : Nat} (hb : ev - 16 ≤ e1) (h1 : e1 < nx) (h2 : nx < ev) (hst : st < ms) (hms : ms ≤ 5) (hsy : g 2 = 0 ∨ g 2 = 1) (h5 : st + 1 < 5) :
    gE b g ev ms fi (5 * (e1 - (ev - 16)) + st) (5 * (nx - (ev - 16)) + (st + 1)) = (decide (st + 1 < ms) && ((decide (g 2 = 1) || decide (nx = e1 + 1)) && mFit1 b g nx (st + 1) e1 fi)) := by
  unfold gE
  rw [show (5 * (e1 - (ev - 16)) + st) / 5 = e1 - (ev - 16) by omega, show (5 * (e1 - (ev - 16)) + st) % 5 = st by omega, show (5 * (nx - (ev - 16)) + (st + 1)) / 5 = nx - (ev - 16) by omega, show (5 * (nx - (ev - 16)) + (st + 1)) % 5 = st + 1 by omega, show (ev - 16) + (e1 - (ev - 16)) = e1 by omega, show (ev - 16) + (nx - (ev - 16)) = nx by omega]
  rw [decide_eq_true (show e1 - (ev - 16) < nx - (ev - 16) by omega), decide_eq_true hst, decide_eq_true (rfl : st + 1 = st + 1), decide_eq_false (show ¬ st + 1 = st by omega), Bool.or_true, Bool.true_and, Bool.true_and, Bool.and_true]
  have e : decide (nx < mEnd g ev e1) = (decide (g 2 = 1) || decide (nx = e1 + 1)) := by
    unfold mEnd
    rcases hsy with h | h
    · rw [h, decide_eq_false (show ¬ (0 : Int32) = 1 by decide), Bool.false_or]
      split
      · by_cases h3 : nx = e1 + 1
        · rw [decide_eq_true h3, decide_eq_true (by omega)]
        · rw [decide_eq_false h3, decide_eq_false (by omega)]
      · rename_i h4
        have h5 : ¬ e1 + 2 < ev := fun q => h4 ⟨rfl, q⟩
        rw [decide_eq_true h2, decide_eq_true (show nx = e1 + 1 by omega)]
    · rw [h, decide_eq_true (rfl : (1 : Int32) = 1), Bool.true_or, if_neg (fun q => absurd q.1 (by decide)), decide_eq_true h2]
  rw [e]
  cases decide (g 2 = 1) || decide (nx = e1 + 1) <;> cases mFit1 b g nx (st + 1) e1 fi <;> cases decide (st + 1 < ms) <;> rfl
def mF1 (b : Nat → Nat → Int32) (g : Nat → Int32) (ev ms fi e1 st nx : Nat) : Nat := if (!decide (b 6 st = 0) && ((decide (g 2 = 1) || decide (nx = e1 + 1)) && mFit1 b g nx st e1 fi)) then gW b g ev ms fi false (nx - (ev - 16)) st else 0
def mF2 (b : Nat → Nat → Int32) (g : Nat → Int32) (ev ms fi e1 st nx : Nat) : Nat := if (decide (st + 1 < ms) && ((decide (g 2 = 1) || decide (nx = e1 + 1)) && mFit1 b g nx (st + 1) e1 fi)) then gW b g ev ms fi false (nx - (ev - 16)) (st + 1) else 0
set_option maxHeartbeats 4000000 in
set_option maxRecDepth 100000 in
theorem lM_P1 (l : Launch) (dC : Nat → ClassId) (dI : Nat → Nat → Nat) (r : Nat → Nat) (cI cZ cG : ClassId) (b : Nat → Nat → Int32) (g : Nat → Int32) {p : Program} {e : Env} {s : State} {m : MethodId} {args : Array Value} {below : List Frame} {meth : Method} {c : Code} {Q : State → Prop} {A : Nat → Prop} (ev ms fi e1 st : Nat) (kv : Int32) (hev : ev ≤ 400) (hg1 : g 1 = nI ev) (h0 : 1 ≤ ms) (hm : ms ≤ 5) (hg4 : g 4 = nI ms) (hfi : fi ≤ e1) (he : e1 < ev) (hbs : ev - 16 ≤ e1) (hst : st < ms) {cells slots : Nat} (hcs : cells ≤ 0 ∧ slots ≤ 0) (hx : p.tables.exec = Jvm.exec) (hb : c.code = cM_find) (hml : c.maxLocals = 12) (hown : s.vm.findClass "EventPatternsModel" = some m.cls) (hbw : ∀ w ∈ bw, w.before args s = true) (hK : va_K (dC, dI) cls2 (xt cI cZ cG) s) (hA : ∀ q : Nat, s.heap.size ≤ q → A q) (nx Lf : Nat) (hn1 : e1 < nx) (hn2 : nx < ev) (hLf : Lf < 2 ^ 31) (y : Nat → Int32) (H : Heap) (locs : List Loc) (ls : Array Slot) (hl : lv_has ls 12 [(2, .int (nI (Lf))), (7, .int (nI (nx))), (8, .int (nI (st))), (9, .int (0)), (0, .ref (r 0)), (1, .int (kv)), (3, .int (nI (fi))), (5, .int (nI (e1))), (6, .int (nI (st)))]) (hP : va_P (dC, dI) cls2 (mw r cI cZ (va_up b 7 (y)) g) H) (hD : va_D A (mw r cI cZ (va_up b 7 (y)) g)) (hS : va_S A s.heap H locs)
    (kC : Lf < mF1 b g ev ms fi e1 st nx → ∀ (y : Nat → Int32) (H : Heap) (locs : List Loc) (ls : Array Slot), lv_has ls 12 [(2, .int (nI (Lf))), (7, .int (nI (nx))), (8, .int (nI (st))), (9, .int (1)), (0, .ref (r 0)), (1, .int (kv)), (3, .int (nI (fi))), (5, .int (nI (e1))), (6, .int (nI (st)))] → va_P (dC, dI) cls2 (mw r cI cZ (va_up b 7 (y)) g) H → va_D A (mw r cI cZ (va_up b 7 (y)) g) → va_S A s.heap H locs → W p l e ({ frames := 2, cells := 0, slots := 0, locals := 57 }) s m args below meth c H locs cells slots Q (F0 m 176 ls []))
    (kN : mF1 b g ev ms fi e1 st nx ≤ Lf → ∀ (y : Nat → Int32) (H : Heap) (locs : List Loc) (ls : Array Slot), lv_has ls 12 [(2, .int (nI (Lf - mF1 b g ev ms fi e1 st nx))), (7, .int (nI (nx))), (8, .int (nI (st + 1))), (9, .int (0)), (0, .ref (r 0)), (1, .int (kv)), (3, .int (nI (fi))), (5, .int (nI (e1))), (6, .int (nI (st)))] → va_P (dC, dI) cls2 (mw r cI cZ (va_up b 7 (y)) g) H → va_D A (mw r cI cZ (va_up b 7 (y)) g) → va_S A s.heap H locs → W p l e ({ frames := 2, cells := 0, slots := 0, locals := 57 }) s m args below meth c H locs cells slots Q (F0 m 176 ls [])) : W p l e ({ frames := 2, cells := 0, slots := 0, locals := 57 }) s m args below meth c H locs cells slots Q (F0 m 176 ls []) := by
  refine lv_iload hx hb dM_find_176 (lv_at hl 3 rfl) ?_
  refine lv_if_ne (tgt := 331) hx hb dM_find_178 (by decide) (fun c9 => absurd c9 (by decide)) (fun _ => ?_)
  refine lv_iload hx hb dM_find_181 (lv_at hl 2 rfl) ?_
  refine lv_iload hx hb dM_find_183 (lv_at hl 8 rfl) ?_
  refine nr_icmp_le (tgt := 200) hx hb (a1 := st) (b1 := st) (by omega) (by omega) dM_find_185 (by decide) (fun _ => ?_) (fun c9 => absurd c9 (by omega))
  refine lv_aload_n hx hb dM_find_200 rfl (lv_at hl 4 rfl) ?_
  refine va_get (D := (dC, dI)) (ci := 1) (v := .ref (r 7)) (C := "EventPatternsModel") (T := TM) (N := 16) hx hb hbw inM hown hK hP 0 rfl rfl 11 (by decide) (hbw _ kf_M_28) (fun _ h9 => h9) rfl dM_find_201 ?_
  refine lv_iload hx hb dM_find_204 (lv_at hl 8 rfl) ?_
  refine nr_zald (f := b 6) hx hb hK hP 7 1 rfl rfl (j := st) (by omega) (by decide) dM_find_206 ?_
  refine lv_if_eq (tgt := 245) hx hb dM_find_207 (by decide) (fun c_207 => ?_) (fun c_207 => ?_)
  · refine lv_iconst (v := 0) hx hb dM_find_245 (by decide) ?_
    refine lv_istore (lv' := [(10, .int (0)), (2, .int (nI (Lf))), (7, .int (nI (nx))), (8, .int (nI (st))), (9, .int (0)), (0, .ref (r 0)), (1, .int (kv)), (3, .int (nI (fi))), (5, .int (nI (e1))), (6, .int (nI (st)))]) hx hb dM_find_246 hl (by decide) rfl (fun ls hl => ?_)
    refine lv_iload hx hb dM_find_248 (lv_at hl 0 rfl) ?_
    refine lv_if_eq (tgt := 266) hx hb dM_find_250 (by decide) (fun _ => ?_) (fun c9 => absurd c9 (by decide))
    refine lv_iconst (v := 0) hx hb dM_find_266 (by decide) ?_
    refine lv_istore (lv' := [(11, .int (0)), (10, .int (0)), (2, .int (nI (Lf))), (7, .int (nI (nx))), (8, .int (nI (st))), (9, .int (0)), (0, .ref (r 0)), (1, .int (kv)), (3, .int (nI (fi))), (5, .int (nI (e1))), (6, .int (nI (st)))]) hx hb dM_find_267 hl (by decide) rfl (fun ls hl => ?_)
    have hB : (!decide (b 6 st = 0) && ((decide (g 2 = 1) || decide (nx = e1 + 1)) && mFit1 b g nx (st) e1 fi)) = false := by first | exact (by rw [decide_eq_true c_207]; rfl) | exact (by rw [decide_eq_false c_215, decide_eq_false c_224]; cases decide (b 6 st = 0) <;> rfl) | exact (by rw [c_238]; cases decide (b 6 st = 0) <;> cases (decide (g 2 = 1) || decide (nx = e1 + 1)) <;> rfl)
    have hF : mF1 b g ev ms fi e1 st nx = 0 := by unfold mF1; rw [hB]; rfl
    refine lv_iload_n hx hb dM_find_269 rfl (lv_at hl 2 rfl) ?_
    refine lv_iload hx hb dM_find_270 (lv_at hl 0 rfl) ?_
    refine nr_icmp_ge (tgt := 279) hx hb (a1 := Lf) (b1 := 0) (by omega) (by omega) dM_find_272 (by decide) (fun c_272 => ?_) (fun c_272 => absurd c_272 (by omega))
    refine lv_iconst (v := 0) hx hb dM_find_279 (by decide) ?_
    refine lv_istore (lv' := [(9, .int (0)), (11, .int (0)), (10, .int (0)), (2, .int (nI (Lf))), (7, .int (nI (nx))), (8, .int (nI (st))), (0, .ref (r 0)), (1, .int (kv)), (3, .int (nI (fi))), (5, .int (nI (e1))), (6, .int (nI (st)))]) hx hb dM_find_280 hl (by decide) rfl (fun ls hl => ?_)
    refine lv_iload hx hb dM_find_282 (lv_at hl 0 rfl) ?_
    refine lv_if_ne (tgt := 328) hx hb dM_find_284 (by decide) (fun c9 => absurd c9 (by decide)) (fun _ => ?_)
    refine lv_iload_n hx hb dM_find_287 rfl (lv_at hl 3 rfl) ?_
    refine lv_iload hx hb dM_find_288 (lv_at hl 1 rfl) ?_
    refine nr_isub hx hb (a1 := Lf) (b1 := 0) (by omega) dM_find_290 ?_
    refine lv_istore_n (lv' := [(2, .int (nI (Lf - 0))), (9, .int (0)), (11, .int (0)), (10, .int (0)), (7, .int (nI (nx))), (8, .int (nI (st))), (0, .ref (r 0)), (1, .int (kv)), (3, .int (nI (fi))), (5, .int (nI (e1))), (6, .int (nI (st)))]) hx hb dM_find_291 rfl hl (by decide) rfl (fun ls hl => ?_)
    refine lv_iload hx hb dM_find_292 (lv_at hl 5 rfl) ?_
    refine lv_iload hx hb dM_find_294 (lv_at hl 10 rfl) ?_
    refine nr_icmp_le (tgt := 306) hx hb (a1 := st) (b1 := st) (by omega) (by omega) dM_find_296 (by decide) (fun _ => ?_) (fun c9 => absurd c9 (by omega))
    refine lv_iload hx hb dM_find_306 (lv_at hl 4 rfl) ?_
    refine lv_istore (lv' := [(7, .int (nI (nx))), (2, .int (nI (Lf - 0))), (9, .int (0)), (11, .int (0)), (10, .int (0)), (8, .int (nI (st))), (0, .ref (r 0)), (1, .int (kv)), (3, .int (nI (fi))), (5, .int (nI (e1))), (6, .int (nI (st)))]) hx hb dM_find_308 hl (by decide) rfl (fun ls hl => ?_)
    refine lv_iload hx hb dM_find_310 (lv_at hl 5 rfl) ?_
    refine lv_iload hx hb dM_find_312 (lv_at hl 10 rfl) ?_
    refine nr_icmp_le (tgt := 322) hx hb (a1 := st) (b1 := st) (by omega) (by omega) dM_find_314 (by decide) (fun _ => ?_) (fun c9 => absurd c9 (by omega))
    refine lv_iload hx hb dM_find_322 (lv_at hl 10 rfl) ?_
    refine lv_iconst (v := 1) hx hb dM_find_324 (by decide) ?_
    refine nr_iadd hx hb (a1 := st) (b1 := 1) dM_find_325 ?_
    refine lv_istore (lv' := [(8, .int (nI (st + 1))), (7, .int (nI (nx))), (2, .int (nI (Lf - 0))), (9, .int (0)), (11, .int (0)), (10, .int (0)), (0, .ref (r 0)), (1, .int (kv)), (3, .int (nI (fi))), (5, .int (nI (e1))), (6, .int (nI (st)))]) hx hb dM_find_326 hl (by decide) rfl (fun ls hl => ?_)
    refine lv_goto (tgt := 176) hx hb dM_find_328 (by decide) ?_
    exact kN (by rw [hF]; exact c_272) _ H locs ls (by rw [hF]; exact (lv_sub hl [2, 1, 0, 3, 6, 7, 8, 9, 10] rfl)) hP hD hS
  · refine lv_aload_n hx hb dM_find_210 rfl (lv_at hl 4 rfl) ?_
    refine va_get (D := (dC, dI)) (ci := 1) (v := .int (g 2)) (C := "EventPatternsModel") (T := TM) (N := 16) hx hb hbw inM hown hK hP 0 rfl rfl 5 (by decide) (hbw _ kf_M_57) (fun _ h9 => h9) rfl dM_find_211 ?_
    refine lv_iconst (v := 1) hx hb dM_find_214 (by decide) ?_
    refine lv_icmp_eq (tgt := 227) hx hb dM_find_215 (by decide) (fun c_215 => ?_) (fun c_215 => ?_)
    · refine lv_aload_n hx hb dM_find_227 rfl (lv_at hl 4 rfl) ?_
      refine lv_iload hx hb dM_find_228 (lv_at hl 1 rfl) ?_
      refine lv_iload hx hb dM_find_230 (lv_at hl 2 rfl) ?_
      refine lv_iload hx hb dM_find_232 (lv_at hl 7 rfl) ?_
      refine lv_iload_n hx hb dM_find_234 rfl (lv_at hl 6 rfl) ?_
      refine vp_callSi (W.runV (As := [.int (nI (nx)), .int (nI (st)), .int (nI (e1)), .int (nI (fi))]) (rest := []) ⟨hx, hb, hml, hown, hbw⟩ (tM_fits1 l dC dI r cI cZ cG (va_up b 7 (y)) (g) (nx) (st) (e1) (fi) (by omega) (by omega) (by omega) (by omega)) (cwV 4 hbw (bw_V km_M_70 ki_yM_fits ksel_yM_fits ki_EventPatternsModel kcM_fits) rfl rfl rfl (by decide +kernel) ⟨Nat.le_of_ble_eq_true rfl, Nat.le_of_ble_eq_true rfl⟩) ⟨fun a U g mk q => by obtain ⟨q0, qP, qK⟩ := q; exact ⟨q0, qP, va_K.moved (u := U) (U := U.calling g mk a) (Vm.Alike.refl U.vm) qK⟩, va_recv hK hP (ci := 1) (q0 := 0) rfl rfl, fun U hU hW => ⟨rfl, by rw [hU]; exact hP, va_K.moved hW.alike hK⟩⟩ rfl rfl hl.1 rfl (lv_room (Nat.le_of_ble_eq_true rfl)) dM_find_235 ⟨hcs.1, hcs.2⟩) (fun r_235 hq => ?_)
      have hq : r_235 = bI (mFit1 b g (nx) (st) (e1) (fi)) := hq
      subst hq
      refine nr_ifb_eq (tgt := 245) hx hb (b := (mFit1 b g (nx) (st) (e1) (fi))) dM_find_238 (by decide) (fun c_238 => ?_) (fun c_238 => ?_)
      · refine lv_iconst (v := 0) hx hb dM_find_245 (by decide) ?_
        refine lv_istore (lv' := [(10, .int (0)), (2, .int (nI (Lf))), (7, .int (nI (nx))), (8, .int (nI (st))), (9, .int (0)), (0, .ref (r 0)), (1, .int (kv)), (3, .int (nI (fi))), (5, .int (nI (e1))), (6, .int (nI (st)))]) hx hb dM_find_246 hl (by decide) rfl (fun ls hl => ?_)
        refine lv_iload hx hb dM_find_248 (lv_at hl 0 rfl) ?_
        refine lv_if_eq (tgt := 266) hx hb dM_find_250 (by decide) (fun _ => ?_) (fun c9 => absurd c9 (by decide))
        refine lv_iconst (v := 0) hx hb dM_find_266 (by decide) ?_
        refine lv_istore (lv' := [(11, .int (0)), (10, .int (0)), (2, .int (nI (Lf))), (7, .int (nI (nx))), (8, .int (nI (st))), (9, .int (0)), (0, .ref (r 0)), (1, .int (kv)), (3, .int (nI (fi))), (5, .int (nI (e1))), (6, .int (nI (st)))]) hx hb dM_find_267 hl (by decide) rfl (fun ls hl => ?_)
        have hB : (!decide (b 6 st = 0) && ((decide (g 2 = 1) || decide (nx = e1 + 1)) && mFit1 b g nx (st) e1 fi)) = false := by first | exact (by rw [decide_eq_true c_207]; rfl) | exact (by rw [decide_eq_false c_215, decide_eq_false c_224]; cases decide (b 6 st = 0) <;> rfl) | exact (by rw [c_238]; cases decide (b 6 st = 0) <;> cases (decide (g 2 = 1) || decide (nx = e1 + 1)) <;> rfl)
        have hF : mF1 b g ev ms fi e1 st nx = 0 := by unfold mF1; rw [hB]; rfl
        refine lv_iload_n hx hb dM_find_269 rfl (lv_at hl 2 rfl) ?_
        refine lv_iload hx hb dM_find_270 (lv_at hl 0 rfl) ?_
        refine nr_icmp_ge (tgt := 279) hx hb (a1 := Lf) (b1 := 0) (by omega) (by omega) dM_find_272 (by decide) (fun c_272 => ?_) (fun c_272 => absurd c_272 (by omega))
        refine lv_iconst (v := 0) hx hb dM_find_279 (by decide) ?_
        refine lv_istore (lv' := [(9, .int (0)), (11, .int (0)), (10, .int (0)), (2, .int (nI (Lf))), (7, .int (nI (nx))), (8, .int (nI (st))), (0, .ref (r 0)), (1, .int (kv)), (3, .int (nI (fi))), (5, .int (nI (e1))), (6, .int (nI (st)))]) hx hb dM_find_280 hl (by decide) rfl (fun ls hl => ?_)
        refine lv_iload hx hb dM_find_282 (lv_at hl 0 rfl) ?_
        refine lv_if_ne (tgt := 328) hx hb dM_find_284 (by decide) (fun c9 => absurd c9 (by decide)) (fun _ => ?_)
        refine lv_iload_n hx hb dM_find_287 rfl (lv_at hl 3 rfl) ?_
        refine lv_iload hx hb dM_find_288 (lv_at hl 1 rfl) ?_
        refine nr_isub hx hb (a1 := Lf) (b1 := 0) (by omega) dM_find_290 ?_
        refine lv_istore_n (lv' := [(2, .int (nI (Lf - 0))), (9, .int (0)), (11, .int (0)), (10, .int (0)), (7, .int (nI (nx))), (8, .int (nI (st))), (0, .ref (r 0)), (1, .int (kv)), (3, .int (nI (fi))), (5, .int (nI (e1))), (6, .int (nI (st)))]) hx hb dM_find_291 rfl hl (by decide) rfl (fun ls hl => ?_)
        refine lv_iload hx hb dM_find_292 (lv_at hl 5 rfl) ?_
        refine lv_iload hx hb dM_find_294 (lv_at hl 10 rfl) ?_
        refine nr_icmp_le (tgt := 306) hx hb (a1 := st) (b1 := st) (by omega) (by omega) dM_find_296 (by decide) (fun _ => ?_) (fun c9 => absurd c9 (by omega))
        refine lv_iload hx hb dM_find_306 (lv_at hl 4 rfl) ?_
        refine lv_istore (lv' := [(7, .int (nI (nx))), (2, .int (nI (Lf - 0))), (9, .int (0)), (11, .int (0)), (10, .int (0)), (8, .int (nI (st))), (0, .ref (r 0)), (1, .int (kv)), (3, .int (nI (fi))), (5, .int (nI (e1))), (6, .int (nI (st)))]) hx hb dM_find_308 hl (by decide) rfl (fun ls hl => ?_)
        refine lv_iload hx hb dM_find_310 (lv_at hl 5 rfl) ?_
        refine lv_iload hx hb dM_find_312 (lv_at hl 10 rfl) ?_
        refine nr_icmp_le (tgt := 322) hx hb (a1 := st) (b1 := st) (by omega) (by omega) dM_find_314 (by decide) (fun _ => ?_) (fun c9 => absurd c9 (by omega))
        refine lv_iload hx hb dM_find_322 (lv_at hl 10 rfl) ?_
        refine lv_iconst (v := 1) hx hb dM_find_324 (by decide) ?_
        refine nr_iadd hx hb (a1 := st) (b1 := 1) dM_find_325 ?_
        refine lv_istore (lv' := [(8, .int (nI (st + 1))), (7, .int (nI (nx))), (2, .int (nI (Lf - 0))), (9, .int (0)), (11, .int (0)), (10, .int (0)), (0, .ref (r 0)), (1, .int (kv)), (3, .int (nI (fi))), (5, .int (nI (e1))), (6, .int (nI (st)))]) hx hb dM_find_326 hl (by decide) rfl (fun ls hl => ?_)
        refine lv_goto (tgt := 176) hx hb dM_find_328 (by decide) ?_
        exact kN (by rw [hF]; exact c_272) _ H locs ls (by rw [hF]; exact (lv_sub hl [2, 1, 0, 3, 6, 7, 8, 9, 10] rfl)) hP hD hS
      · refine lv_iconst (v := 1) hx hb dM_find_241 (by decide) ?_
        refine lv_goto (tgt := 246) hx hb dM_find_242 (by decide) ?_
        refine lv_istore (lv' := [(10, .int (1)), (2, .int (nI (Lf))), (7, .int (nI (nx))), (8, .int (nI (st))), (9, .int (0)), (0, .ref (r 0)), (1, .int (kv)), (3, .int (nI (fi))), (5, .int (nI (e1))), (6, .int (nI (st)))]) hx hb dM_find_246 hl (by decide) rfl (fun ls hl => ?_)
        refine lv_iload hx hb dM_find_248 (lv_at hl 0 rfl) ?_
        refine lv_if_eq (tgt := 266) hx hb dM_find_250 (by decide) (fun c9 => absurd c9 (by decide)) (fun _ => ?_)
        refine lv_aload_n hx hb dM_find_253 rfl (lv_at hl 5 rfl) ?_
        refine lv_iload_n hx hb dM_find_254 rfl (lv_at hl 7 rfl) ?_
        refine lv_iload hx hb dM_find_255 (lv_at hl 2 rfl) ?_
        refine lv_iload hx hb dM_find_257 (lv_at hl 3 rfl) ?_
        refine lv_iconst (v := 0) hx hb dM_find_259 (by decide) ?_
        have hFc := va_free (wc := mw r cI cZ (va_up b 7 (y)) (g)) hD hS hA (List.range 11) rfl
        refine va_calli (va_runV (As := [.int (nI (fi)), .int (nI (nx)), .int (nI (st)), .int (0)]) (rest := []) ⟨hx, hb, hml, hown, hbw⟩ (tM_waysFrom l dC dI r cI cZ cG (va_up b 7 (y)) (g) H.size ev ms (fi) (nx) (st) false hev hg1 h0 hm hg4 (by omega) (by omega) (by omega) (by omega)) (cwV 4 hbw (bw_V km_M_74 ki_yM_waysFrom ksel_yM_waysFrom ki_EventPatternsModel kcM_waysFrom) rfl rfl rfl (by decide +kernel) ⟨Nat.le_of_ble_eq_true rfl, Nat.le_of_ble_eq_true rfl⟩) ⟨fun a U g mk q => by obtain ⟨q0, q1, qP, qK, qD⟩ := q; exact ⟨q0, q1, qP, va_K.moved (u := U) (U := U.calling g mk a) (Vm.Alike.refl U.vm) qK, qD⟩, va_recv hK hP (ci := 1) (q0 := 0) rfl rfl, fun U hU hW => ⟨rfl, by rw [hU], by rw [hU]; exact hP, va_K.moved hW.alike hK, hD.weaken (fun _ _ _ _ => trivial)⟩⟩ rfl rfl hl.1 rfl (lv_room (Nat.le_of_ble_eq_true rfl)) dM_find_260 ⟨hcs.1, hcs.2⟩) hS (fun q _ h => hFc q h) hFc (fun r_260 u t H1 locs ht hvm hq hB hz1 hk1 hS => ?_)
        obtain ⟨yz, y3, hyz, hq1, hq⟩ := hq
        rw [mWays hm (by omega) (by omega) (by omega) hyz, gW_c up7 rfl rfl] at hq1
        subst hq1
        obtain rfl := hq
        obtain ⟨hP1, hK1, hD1⟩ := hB
        rw [ht] at hP1
        have hP : va_P (dC, dI) cls2 (mw r cI cZ (va_up b 7 (y3)) (g)) H1 := hP1
        have hD : va_D A (mw r cI cZ (va_up b 7 (y3)) (g)) := hD1.weaken (fun _ _ _ h => hFc _ h)
        generalize H1 = H at hP hS ⊢
        refine lv_goto (tgt := 267) hx hb dM_find_263 (by decide) ?_
        refine lv_istore (lv' := [(11, .int (nI (gW b g ev ms (fi) false ((nx) - (ev - 16)) (st)))), (10, .int (1)), (2, .int (nI (Lf))), (7, .int (nI (nx))), (8, .int (nI (st))), (9, .int (0)), (0, .ref (r 0)), (1, .int (kv)), (3, .int (nI (fi))), (5, .int (nI (e1))), (6, .int (nI (st)))]) hx hb dM_find_267 hl (by decide) rfl (fun ls hl => ?_)
        have hB : (!decide (b 6 st = 0) && ((decide (g 2 = 1) || decide (nx = e1 + 1)) && mFit1 b g nx (st) e1 fi)) = true := by
          rw [decide_eq_false c_207, c_238]
          first | (rw [decide_eq_true c_215]; rfl) | (rw [decide_eq_true c_224, Bool.or_true]; rfl)
        have hF : mF1 b g ev ms fi e1 st nx = gW b g ev ms (fi) false ((nx) - (ev - 16)) (st) := by unfold mF1; rw [hB]; rfl
        have hgw : gW b g ev ms (fi) false ((nx) - (ev - 16)) (st) ≤ 14348907 := gW_le b g ev ms fi false (by omega)
        refine lv_iload_n hx hb dM_find_269 rfl (lv_at hl 2 rfl) ?_
        refine lv_iload hx hb dM_find_270 (lv_at hl 0 rfl) ?_
        refine nr_icmp_ge (tgt := 279) hx hb (a1 := Lf) (b1 := gW b g ev ms (fi) false ((nx) - (ev - 16)) (st)) (by omega) (by omega) dM_find_272 (by decide) (fun c_272 => ?_) (fun c_272 => ?_)
        · refine lv_iconst (v := 0) hx hb dM_find_279 (by decide) ?_
          refine lv_istore (lv' := [(9, .int (0)), (11, .int (nI (gW b g ev ms (fi) false ((nx) - (ev - 16)) (st)))), (10, .int (1)), (2, .int (nI (Lf))), (7, .int (nI (nx))), (8, .int (nI (st))), (0, .ref (r 0)), (1, .int (kv)), (3, .int (nI (fi))), (5, .int (nI (e1))), (6, .int (nI (st)))]) hx hb dM_find_280 hl (by decide) rfl (fun ls hl => ?_)
          refine lv_iload hx hb dM_find_282 (lv_at hl 0 rfl) ?_
          refine lv_if_ne (tgt := 328) hx hb dM_find_284 (by decide) (fun c9 => absurd c9 (by decide)) (fun _ => ?_)
          refine lv_iload_n hx hb dM_find_287 rfl (lv_at hl 3 rfl) ?_
          refine lv_iload hx hb dM_find_288 (lv_at hl 1 rfl) ?_
          refine nr_isub hx hb (a1 := Lf) (b1 := gW b g ev ms (fi) false ((nx) - (ev - 16)) (st)) (by omega) dM_find_290 ?_
          refine lv_istore_n (lv' := [(2, .int (nI (Lf - (gW b g ev ms (fi) false ((nx) - (ev - 16)) (st))))), (9, .int (0)), (11, .int (nI (gW b g ev ms (fi) false ((nx) - (ev - 16)) (st)))), (10, .int (1)), (7, .int (nI (nx))), (8, .int (nI (st))), (0, .ref (r 0)), (1, .int (kv)), (3, .int (nI (fi))), (5, .int (nI (e1))), (6, .int (nI (st)))]) hx hb dM_find_291 rfl hl (by decide) rfl (fun ls hl => ?_)
          refine lv_iload hx hb dM_find_292 (lv_at hl 5 rfl) ?_
          refine lv_iload hx hb dM_find_294 (lv_at hl 10 rfl) ?_
          refine nr_icmp_le (tgt := 306) hx hb (a1 := st) (b1 := st) (by omega) (by omega) dM_find_296 (by decide) (fun _ => ?_) (fun c9 => absurd c9 (by omega))
          refine lv_iload hx hb dM_find_306 (lv_at hl 4 rfl) ?_
          refine lv_istore (lv' := [(7, .int (nI (nx))), (2, .int (nI (Lf - (gW b g ev ms (fi) false ((nx) - (ev - 16)) (st))))), (9, .int (0)), (11, .int (nI (gW b g ev ms (fi) false ((nx) - (ev - 16)) (st)))), (10, .int (1)), (8, .int (nI (st))), (0, .ref (r 0)), (1, .int (kv)), (3, .int (nI (fi))), (5, .int (nI (e1))), (6, .int (nI (st)))]) hx hb dM_find_308 hl (by decide) rfl (fun ls hl => ?_)
          refine lv_iload hx hb dM_find_310 (lv_at hl 5 rfl) ?_
          refine lv_iload hx hb dM_find_312 (lv_at hl 10 rfl) ?_
          refine nr_icmp_le (tgt := 322) hx hb (a1 := st) (b1 := st) (by omega) (by omega) dM_find_314 (by decide) (fun _ => ?_) (fun c9 => absurd c9 (by omega))
          refine lv_iload hx hb dM_find_322 (lv_at hl 10 rfl) ?_
          refine lv_iconst (v := 1) hx hb dM_find_324 (by decide) ?_
          refine nr_iadd hx hb (a1 := st) (b1 := 1) dM_find_325 ?_
          refine lv_istore (lv' := [(8, .int (nI (st + 1))), (7, .int (nI (nx))), (2, .int (nI (Lf - (gW b g ev ms (fi) false ((nx) - (ev - 16)) (st))))), (9, .int (0)), (11, .int (nI (gW b g ev ms (fi) false ((nx) - (ev - 16)) (st)))), (10, .int (1)), (0, .ref (r 0)), (1, .int (kv)), (3, .int (nI (fi))), (5, .int (nI (e1))), (6, .int (nI (st)))]) hx hb dM_find_326 hl (by decide) rfl (fun ls hl => ?_)
          refine lv_goto (tgt := 176) hx hb dM_find_328 (by decide) ?_
          exact kN (by rw [hF]; exact c_272) _ H locs ls (by rw [hF]; exact (lv_sub hl [2, 1, 0, 3, 6, 7, 8, 9, 10] rfl)) hP hD hS
        · refine lv_iconst (v := 1) hx hb dM_find_275 (by decide) ?_
          refine lv_goto (tgt := 280) hx hb dM_find_276 (by decide) ?_
          refine lv_istore (lv' := [(9, .int (1)), (11, .int (nI (gW b g ev ms (fi) false ((nx) - (ev - 16)) (st)))), (10, .int (1)), (2, .int (nI (Lf))), (7, .int (nI (nx))), (8, .int (nI (st))), (0, .ref (r 0)), (1, .int (kv)), (3, .int (nI (fi))), (5, .int (nI (e1))), (6, .int (nI (st)))]) hx hb dM_find_280 hl (by decide) rfl (fun ls hl => ?_)
          refine lv_iload hx hb dM_find_282 (lv_at hl 0 rfl) ?_
          refine lv_if_ne (tgt := 328) hx hb dM_find_284 (by decide) (fun _ => ?_) (fun c9 => absurd c9 (by decide))
          refine lv_goto (tgt := 176) hx hb dM_find_328 (by decide) ?_
          exact kC (by rw [hF]; exact c_272) _ H locs ls (lv_sub hl [3, 4, 5, 0, 6, 7, 8, 9, 10] rfl) hP hD hS
    · refine lv_iload hx hb dM_find_218 (lv_at hl 1 rfl) ?_
      refine lv_iload hx hb dM_find_220 (lv_at hl 7 rfl) ?_
      refine lv_iconst (v := 1) hx hb dM_find_222 (by decide) ?_
      refine nr_iadd hx hb (a1 := e1) (b1 := 1) dM_find_223 ?_
      refine nr_icmp_ne (tgt := 245) hx hb (a1 := nx) (b1 := e1 + 1) (by omega) (by omega) dM_find_224 (by decide) (fun c_224 => ?_) (fun c_224 => ?_)
      · refine lv_iconst (v := 0) hx hb dM_find_245 (by decide) ?_
        refine lv_istore (lv' := [(10, .int (0)), (2, .int (nI (Lf))), (7, .int (nI (nx))), (8, .int (nI (st))), (9, .int (0)), (0, .ref (r 0)), (1, .int (kv)), (3, .int (nI (fi))), (5, .int (nI (e1))), (6, .int (nI (st)))]) hx hb dM_find_246 hl (by decide) rfl (fun ls hl => ?_)
        refine lv_iload hx hb dM_find_248 (lv_at hl 0 rfl) ?_
        refine lv_if_eq (tgt := 266) hx hb dM_find_250 (by decide) (fun _ => ?_) (fun c9 => absurd c9 (by decide))
        refine lv_iconst (v := 0) hx hb dM_find_266 (by decide) ?_
        refine lv_istore (lv' := [(11, .int (0)), (10, .int (0)), (2, .int (nI (Lf))), (7, .int (nI (nx))), (8, .int (nI (st))), (9, .int (0)), (0, .ref (r 0)), (1, .int (kv)), (3, .int (nI (fi))), (5, .int (nI (e1))), (6, .int (nI (st)))]) hx hb dM_find_267 hl (by decide) rfl (fun ls hl => ?_)
        have hB : (!decide (b 6 st = 0) && ((decide (g 2 = 1) || decide (nx = e1 + 1)) && mFit1 b g nx (st) e1 fi)) = false := by first | exact (by rw [decide_eq_true c_207]; rfl) | exact (by rw [decide_eq_false c_215, decide_eq_false c_224]; cases decide (b 6 st = 0) <;> rfl) | exact (by rw [c_238]; cases decide (b 6 st = 0) <;> cases (decide (g 2 = 1) || decide (nx = e1 + 1)) <;> rfl)
        have hF : mF1 b g ev ms fi e1 st nx = 0 := by unfold mF1; rw [hB]; rfl
        refine lv_iload_n hx hb dM_find_269 rfl (lv_at hl 2 rfl) ?_
        refine lv_iload hx hb dM_find_270 (lv_at hl 0 rfl) ?_
        refine nr_icmp_ge (tgt := 279) hx hb (a1 := Lf) (b1 := 0) (by omega) (by omega) dM_find_272 (by decide) (fun c_272 => ?_) (fun c_272 => absurd c_272 (by omega))
        refine lv_iconst (v := 0) hx hb dM_find_279 (by decide) ?_
        refine lv_istore (lv' := [(9, .int (0)), (11, .int (0)), (10, .int (0)), (2, .int (nI (Lf))), (7, .int (nI (nx))), (8, .int (nI (st))), (0, .ref (r 0)), (1, .int (kv)), (3, .int (nI (fi))), (5, .int (nI (e1))), (6, .int (nI (st)))]) hx hb dM_find_280 hl (by decide) rfl (fun ls hl => ?_)
        refine lv_iload hx hb dM_find_282 (lv_at hl 0 rfl) ?_
        refine lv_if_ne (tgt := 328) hx hb dM_find_284 (by decide) (fun c9 => absurd c9 (by decide)) (fun _ => ?_)
        refine lv_iload_n hx hb dM_find_287 rfl (lv_at hl 3 rfl) ?_
        refine lv_iload hx hb dM_find_288 (lv_at hl 1 rfl) ?_
        refine nr_isub hx hb (a1 := Lf) (b1 := 0) (by omega) dM_find_290 ?_
        refine lv_istore_n (lv' := [(2, .int (nI (Lf - 0))), (9, .int (0)), (11, .int (0)), (10, .int (0)), (7, .int (nI (nx))), (8, .int (nI (st))), (0, .ref (r 0)), (1, .int (kv)), (3, .int (nI (fi))), (5, .int (nI (e1))), (6, .int (nI (st)))]) hx hb dM_find_291 rfl hl (by decide) rfl (fun ls hl => ?_)
        refine lv_iload hx hb dM_find_292 (lv_at hl 5 rfl) ?_
        refine lv_iload hx hb dM_find_294 (lv_at hl 10 rfl) ?_
        refine nr_icmp_le (tgt := 306) hx hb (a1 := st) (b1 := st) (by omega) (by omega) dM_find_296 (by decide) (fun _ => ?_) (fun c9 => absurd c9 (by omega))
        refine lv_iload hx hb dM_find_306 (lv_at hl 4 rfl) ?_
        refine lv_istore (lv' := [(7, .int (nI (nx))), (2, .int (nI (Lf - 0))), (9, .int (0)), (11, .int (0)), (10, .int (0)), (8, .int (nI (st))), (0, .ref (r 0)), (1, .int (kv)), (3, .int (nI (fi))), (5, .int (nI (e1))), (6, .int (nI (st)))]) hx hb dM_find_308 hl (by decide) rfl (fun ls hl => ?_)
        refine lv_iload hx hb dM_find_310 (lv_at hl 5 rfl) ?_
        refine lv_iload hx hb dM_find_312 (lv_at hl 10 rfl) ?_
        refine nr_icmp_le (tgt := 322) hx hb (a1 := st) (b1 := st) (by omega) (by omega) dM_find_314 (by decide) (fun _ => ?_) (fun c9 => absurd c9 (by omega))
        refine lv_iload hx hb dM_find_322 (lv_at hl 10 rfl) ?_
        refine lv_iconst (v := 1) hx hb dM_find_324 (by decide) ?_
        refine nr_iadd hx hb (a1 := st) (b1 := 1) dM_find_325 ?_
        refine lv_istore (lv' := [(8, .int (nI (st + 1))), (7, .int (nI (nx))), (2, .int (nI (Lf - 0))), (9, .int (0)), (11, .int (0)), (10, .int (0)), (0, .ref (r 0)), (1, .int (kv)), (3, .int (nI (fi))), (5, .int (nI (e1))), (6, .int (nI (st)))]) hx hb dM_find_326 hl (by decide) rfl (fun ls hl => ?_)
        refine lv_goto (tgt := 176) hx hb dM_find_328 (by decide) ?_
        exact kN (by rw [hF]; exact c_272) _ H locs ls (by rw [hF]; exact (lv_sub hl [2, 1, 0, 3, 6, 7, 8, 9, 10] rfl)) hP hD hS
      · refine lv_aload_n hx hb dM_find_227 rfl (lv_at hl 4 rfl) ?_
        refine lv_iload hx hb dM_find_228 (lv_at hl 1 rfl) ?_
        refine lv_iload hx hb dM_find_230 (lv_at hl 2 rfl) ?_
        refine lv_iload hx hb dM_find_232 (lv_at hl 7 rfl) ?_
        refine lv_iload_n hx hb dM_find_234 rfl (lv_at hl 6 rfl) ?_
        refine vp_callSi (W.runV (As := [.int (nI (nx)), .int (nI (st)), .int (nI (e1)), .int (nI (fi))]) (rest := []) ⟨hx, hb, hml, hown, hbw⟩ (tM_fits1 l dC dI r cI cZ cG (va_up b 7 (y)) (g) (nx) (st) (e1) (fi) (by omega) (by omega) (by omega) (by omega)) (cwV 4 hbw (bw_V km_M_70 ki_yM_fits ksel_yM_fits ki_EventPatternsModel kcM_fits) rfl rfl rfl (by decide +kernel) ⟨Nat.le_of_ble_eq_true rfl, Nat.le_of_ble_eq_true rfl⟩) ⟨fun a U g mk q => by obtain ⟨q0, qP, qK⟩ := q; exact ⟨q0, qP, va_K.moved (u := U) (U := U.calling g mk a) (Vm.Alike.refl U.vm) qK⟩, va_recv hK hP (ci := 1) (q0 := 0) rfl rfl, fun U hU hW => ⟨rfl, by rw [hU]; exact hP, va_K.moved hW.alike hK⟩⟩ rfl rfl hl.1 rfl (lv_room (Nat.le_of_ble_eq_true rfl)) dM_find_235 ⟨hcs.1, hcs.2⟩) (fun r_235 hq => ?_)
        have hq : r_235 = bI (mFit1 b g (nx) (st) (e1) (fi)) := hq
        subst hq
        refine nr_ifb_eq (tgt := 245) hx hb (b := (mFit1 b g (nx) (st) (e1) (fi))) dM_find_238 (by decide) (fun c_238 => ?_) (fun c_238 => ?_)
        · refine lv_iconst (v := 0) hx hb dM_find_245 (by decide) ?_
          refine lv_istore (lv' := [(10, .int (0)), (2, .int (nI (Lf))), (7, .int (nI (nx))), (8, .int (nI (st))), (9, .int (0)), (0, .ref (r 0)), (1, .int (kv)), (3, .int (nI (fi))), (5, .int (nI (e1))), (6, .int (nI (st)))]) hx hb dM_find_246 hl (by decide) rfl (fun ls hl => ?_)
          refine lv_iload hx hb dM_find_248 (lv_at hl 0 rfl) ?_
          refine lv_if_eq (tgt := 266) hx hb dM_find_250 (by decide) (fun _ => ?_) (fun c9 => absurd c9 (by decide))
          refine lv_iconst (v := 0) hx hb dM_find_266 (by decide) ?_
          refine lv_istore (lv' := [(11, .int (0)), (10, .int (0)), (2, .int (nI (Lf))), (7, .int (nI (nx))), (8, .int (nI (st))), (9, .int (0)), (0, .ref (r 0)), (1, .int (kv)), (3, .int (nI (fi))), (5, .int (nI (e1))), (6, .int (nI (st)))]) hx hb dM_find_267 hl (by decide) rfl (fun ls hl => ?_)
          have hB : (!decide (b 6 st = 0) && ((decide (g 2 = 1) || decide (nx = e1 + 1)) && mFit1 b g nx (st) e1 fi)) = false := by first | exact (by rw [decide_eq_true c_207]; rfl) | exact (by rw [decide_eq_false c_215, decide_eq_false c_224]; cases decide (b 6 st = 0) <;> rfl) | exact (by rw [c_238]; cases decide (b 6 st = 0) <;> cases (decide (g 2 = 1) || decide (nx = e1 + 1)) <;> rfl)
          have hF : mF1 b g ev ms fi e1 st nx = 0 := by unfold mF1; rw [hB]; rfl
          refine lv_iload_n hx hb dM_find_269 rfl (lv_at hl 2 rfl) ?_
          refine lv_iload hx hb dM_find_270 (lv_at hl 0 rfl) ?_
          refine nr_icmp_ge (tgt := 279) hx hb (a1 := Lf) (b1 := 0) (by omega) (by omega) dM_find_272 (by decide) (fun c_272 => ?_) (fun c_272 => absurd c_272 (by omega))
          refine lv_iconst (v := 0) hx hb dM_find_279 (by decide) ?_
          refine lv_istore (lv' := [(9, .int (0)), (11, .int (0)), (10, .int (0)), (2, .int (nI (Lf))), (7, .int (nI (nx))), (8, .int (nI (st))), (0, .ref (r 0)), (1, .int (kv)), (3, .int (nI (fi))), (5, .int (nI (e1))), (6, .int (nI (st)))]) hx hb dM_find_280 hl (by decide) rfl (fun ls hl => ?_)
          refine lv_iload hx hb dM_find_282 (lv_at hl 0 rfl) ?_
          refine lv_if_ne (tgt := 328) hx hb dM_find_284 (by decide) (fun c9 => absurd c9 (by decide)) (fun _ => ?_)
          refine lv_iload_n hx hb dM_find_287 rfl (lv_at hl 3 rfl) ?_
          refine lv_iload hx hb dM_find_288 (lv_at hl 1 rfl) ?_
          refine nr_isub hx hb (a1 := Lf) (b1 := 0) (by omega) dM_find_290 ?_
          refine lv_istore_n (lv' := [(2, .int (nI (Lf - 0))), (9, .int (0)), (11, .int (0)), (10, .int (0)), (7, .int (nI (nx))), (8, .int (nI (st))), (0, .ref (r 0)), (1, .int (kv)), (3, .int (nI (fi))), (5, .int (nI (e1))), (6, .int (nI (st)))]) hx hb dM_find_291 rfl hl (by decide) rfl (fun ls hl => ?_)
          refine lv_iload hx hb dM_find_292 (lv_at hl 5 rfl) ?_
          refine lv_iload hx hb dM_find_294 (lv_at hl 10 rfl) ?_
          refine nr_icmp_le (tgt := 306) hx hb (a1 := st) (b1 := st) (by omega) (by omega) dM_find_296 (by decide) (fun _ => ?_) (fun c9 => absurd c9 (by omega))
          refine lv_iload hx hb dM_find_306 (lv_at hl 4 rfl) ?_
          refine lv_istore (lv' := [(7, .int (nI (nx))), (2, .int (nI (Lf - 0))), (9, .int (0)), (11, .int (0)), (10, .int (0)), (8, .int (nI (st))), (0, .ref (r 0)), (1, .int (kv)), (3, .int (nI (fi))), (5, .int (nI (e1))), (6, .int (nI (st)))]) hx hb dM_find_308 hl (by decide) rfl (fun ls hl => ?_)
          refine lv_iload hx hb dM_find_310 (lv_at hl 5 rfl) ?_
          refine lv_iload hx hb dM_find_312 (lv_at hl 10 rfl) ?_
          refine nr_icmp_le (tgt := 322) hx hb (a1 := st) (b1 := st) (by omega) (by omega) dM_find_314 (by decide) (fun _ => ?_) (fun c9 => absurd c9 (by omega))
          refine lv_iload hx hb dM_find_322 (lv_at hl 10 rfl) ?_
          refine lv_iconst (v := 1) hx hb dM_find_324 (by decide) ?_
          refine nr_iadd hx hb (a1 := st) (b1 := 1) dM_find_325 ?_
          refine lv_istore (lv' := [(8, .int (nI (st + 1))), (7, .int (nI (nx))), (2, .int (nI (Lf - 0))), (9, .int (0)), (11, .int (0)), (10, .int (0)), (0, .ref (r 0)), (1, .int (kv)), (3, .int (nI (fi))), (5, .int (nI (e1))), (6, .int (nI (st)))]) hx hb dM_find_326 hl (by decide) rfl (fun ls hl => ?_)
          refine lv_goto (tgt := 176) hx hb dM_find_328 (by decide) ?_
          exact kN (by rw [hF]; exact c_272) _ H locs ls (by rw [hF]; exact (lv_sub hl [2, 1, 0, 3, 6, 7, 8, 9, 10] rfl)) hP hD hS
        · refine lv_iconst (v := 1) hx hb dM_find_241 (by decide) ?_
          refine lv_goto (tgt := 246) hx hb dM_find_242 (by decide) ?_
          refine lv_istore (lv' := [(10, .int (1)), (2, .int (nI (Lf))), (7, .int (nI (nx))), (8, .int (nI (st))), (9, .int (0)), (0, .ref (r 0)), (1, .int (kv)), (3, .int (nI (fi))), (5, .int (nI (e1))), (6, .int (nI (st)))]) hx hb dM_find_246 hl (by decide) rfl (fun ls hl => ?_)
          refine lv_iload hx hb dM_find_248 (lv_at hl 0 rfl) ?_
          refine lv_if_eq (tgt := 266) hx hb dM_find_250 (by decide) (fun c9 => absurd c9 (by decide)) (fun _ => ?_)
          refine lv_aload_n hx hb dM_find_253 rfl (lv_at hl 5 rfl) ?_
          refine lv_iload_n hx hb dM_find_254 rfl (lv_at hl 7 rfl) ?_
          refine lv_iload hx hb dM_find_255 (lv_at hl 2 rfl) ?_
          refine lv_iload hx hb dM_find_257 (lv_at hl 3 rfl) ?_
          refine lv_iconst (v := 0) hx hb dM_find_259 (by decide) ?_
          have hFc := va_free (wc := mw r cI cZ (va_up b 7 (y)) (g)) hD hS hA (List.range 11) rfl
          refine va_calli (va_runV (As := [.int (nI (fi)), .int (nI (nx)), .int (nI (st)), .int (0)]) (rest := []) ⟨hx, hb, hml, hown, hbw⟩ (tM_waysFrom l dC dI r cI cZ cG (va_up b 7 (y)) (g) H.size ev ms (fi) (nx) (st) false hev hg1 h0 hm hg4 (by omega) (by omega) (by omega) (by omega)) (cwV 4 hbw (bw_V km_M_74 ki_yM_waysFrom ksel_yM_waysFrom ki_EventPatternsModel kcM_waysFrom) rfl rfl rfl (by decide +kernel) ⟨Nat.le_of_ble_eq_true rfl, Nat.le_of_ble_eq_true rfl⟩) ⟨fun a U g mk q => by obtain ⟨q0, q1, qP, qK, qD⟩ := q; exact ⟨q0, q1, qP, va_K.moved (u := U) (U := U.calling g mk a) (Vm.Alike.refl U.vm) qK, qD⟩, va_recv hK hP (ci := 1) (q0 := 0) rfl rfl, fun U hU hW => ⟨rfl, by rw [hU], by rw [hU]; exact hP, va_K.moved hW.alike hK, hD.weaken (fun _ _ _ _ => trivial)⟩⟩ rfl rfl hl.1 rfl (lv_room (Nat.le_of_ble_eq_true rfl)) dM_find_260 ⟨hcs.1, hcs.2⟩) hS (fun q _ h => hFc q h) hFc (fun r_260 u t H1 locs ht hvm hq hB hz1 hk1 hS => ?_)
          obtain ⟨yz, y6, hyz, hq1, hq⟩ := hq
          rw [mWays hm (by omega) (by omega) (by omega) hyz, gW_c up7 rfl rfl] at hq1
          subst hq1
          obtain rfl := hq
          obtain ⟨hP1, hK1, hD1⟩ := hB
          rw [ht] at hP1
          have hP : va_P (dC, dI) cls2 (mw r cI cZ (va_up b 7 (y6)) (g)) H1 := hP1
          have hD : va_D A (mw r cI cZ (va_up b 7 (y6)) (g)) := hD1.weaken (fun _ _ _ h => hFc _ h)
          generalize H1 = H at hP hS ⊢
          refine lv_goto (tgt := 267) hx hb dM_find_263 (by decide) ?_
          refine lv_istore (lv' := [(11, .int (nI (gW b g ev ms (fi) false ((nx) - (ev - 16)) (st)))), (10, .int (1)), (2, .int (nI (Lf))), (7, .int (nI (nx))), (8, .int (nI (st))), (9, .int (0)), (0, .ref (r 0)), (1, .int (kv)), (3, .int (nI (fi))), (5, .int (nI (e1))), (6, .int (nI (st)))]) hx hb dM_find_267 hl (by decide) rfl (fun ls hl => ?_)
          have hB : (!decide (b 6 st = 0) && ((decide (g 2 = 1) || decide (nx = e1 + 1)) && mFit1 b g nx (st) e1 fi)) = true := by
            rw [decide_eq_false c_207, c_238]
            first | (rw [decide_eq_true c_215]; rfl) | (rw [decide_eq_true c_224, Bool.or_true]; rfl)
          have hF : mF1 b g ev ms fi e1 st nx = gW b g ev ms (fi) false ((nx) - (ev - 16)) (st) := by unfold mF1; rw [hB]; rfl
          have hgw : gW b g ev ms (fi) false ((nx) - (ev - 16)) (st) ≤ 14348907 := gW_le b g ev ms fi false (by omega)
          refine lv_iload_n hx hb dM_find_269 rfl (lv_at hl 2 rfl) ?_
          refine lv_iload hx hb dM_find_270 (lv_at hl 0 rfl) ?_
          refine nr_icmp_ge (tgt := 279) hx hb (a1 := Lf) (b1 := gW b g ev ms (fi) false ((nx) - (ev - 16)) (st)) (by omega) (by omega) dM_find_272 (by decide) (fun c_272 => ?_) (fun c_272 => ?_)
          · refine lv_iconst (v := 0) hx hb dM_find_279 (by decide) ?_
            refine lv_istore (lv' := [(9, .int (0)), (11, .int (nI (gW b g ev ms (fi) false ((nx) - (ev - 16)) (st)))), (10, .int (1)), (2, .int (nI (Lf))), (7, .int (nI (nx))), (8, .int (nI (st))), (0, .ref (r 0)), (1, .int (kv)), (3, .int (nI (fi))), (5, .int (nI (e1))), (6, .int (nI (st)))]) hx hb dM_find_280 hl (by decide) rfl (fun ls hl => ?_)
            refine lv_iload hx hb dM_find_282 (lv_at hl 0 rfl) ?_
            refine lv_if_ne (tgt := 328) hx hb dM_find_284 (by decide) (fun c9 => absurd c9 (by decide)) (fun _ => ?_)
            refine lv_iload_n hx hb dM_find_287 rfl (lv_at hl 3 rfl) ?_
            refine lv_iload hx hb dM_find_288 (lv_at hl 1 rfl) ?_
            refine nr_isub hx hb (a1 := Lf) (b1 := gW b g ev ms (fi) false ((nx) - (ev - 16)) (st)) (by omega) dM_find_290 ?_
            refine lv_istore_n (lv' := [(2, .int (nI (Lf - (gW b g ev ms (fi) false ((nx) - (ev - 16)) (st))))), (9, .int (0)), (11, .int (nI (gW b g ev ms (fi) false ((nx) - (ev - 16)) (st)))), (10, .int (1)), (7, .int (nI (nx))), (8, .int (nI (st))), (0, .ref (r 0)), (1, .int (kv)), (3, .int (nI (fi))), (5, .int (nI (e1))), (6, .int (nI (st)))]) hx hb dM_find_291 rfl hl (by decide) rfl (fun ls hl => ?_)
            refine lv_iload hx hb dM_find_292 (lv_at hl 5 rfl) ?_
            refine lv_iload hx hb dM_find_294 (lv_at hl 10 rfl) ?_
            refine nr_icmp_le (tgt := 306) hx hb (a1 := st) (b1 := st) (by omega) (by omega) dM_find_296 (by decide) (fun _ => ?_) (fun c9 => absurd c9 (by omega))
            refine lv_iload hx hb dM_find_306 (lv_at hl 4 rfl) ?_
            refine lv_istore (lv' := [(7, .int (nI (nx))), (2, .int (nI (Lf - (gW b g ev ms (fi) false ((nx) - (ev - 16)) (st))))), (9, .int (0)), (11, .int (nI (gW b g ev ms (fi) false ((nx) - (ev - 16)) (st)))), (10, .int (1)), (8, .int (nI (st))), (0, .ref (r 0)), (1, .int (kv)), (3, .int (nI (fi))), (5, .int (nI (e1))), (6, .int (nI (st)))]) hx hb dM_find_308 hl (by decide) rfl (fun ls hl => ?_)
            refine lv_iload hx hb dM_find_310 (lv_at hl 5 rfl) ?_
            refine lv_iload hx hb dM_find_312 (lv_at hl 10 rfl) ?_
            refine nr_icmp_le (tgt := 322) hx hb (a1 := st) (b1 := st) (by omega) (by omega) dM_find_314 (by decide) (fun _ => ?_) (fun c9 => absurd c9 (by omega))
            refine lv_iload hx hb dM_find_322 (lv_at hl 10 rfl) ?_
            refine lv_iconst (v := 1) hx hb dM_find_324 (by decide) ?_
            refine nr_iadd hx hb (a1 := st) (b1 := 1) dM_find_325 ?_
            refine lv_istore (lv' := [(8, .int (nI (st + 1))), (7, .int (nI (nx))), (2, .int (nI (Lf - (gW b g ev ms (fi) false ((nx) - (ev - 16)) (st))))), (9, .int (0)), (11, .int (nI (gW b g ev ms (fi) false ((nx) - (ev - 16)) (st)))), (10, .int (1)), (0, .ref (r 0)), (1, .int (kv)), (3, .int (nI (fi))), (5, .int (nI (e1))), (6, .int (nI (st)))]) hx hb dM_find_326 hl (by decide) rfl (fun ls hl => ?_)
            refine lv_goto (tgt := 176) hx hb dM_find_328 (by decide) ?_
            exact kN (by rw [hF]; exact c_272) _ H locs ls (by rw [hF]; exact (lv_sub hl [2, 1, 0, 3, 6, 7, 8, 9, 10] rfl)) hP hD hS
          · refine lv_iconst (v := 1) hx hb dM_find_275 (by decide) ?_
            refine lv_goto (tgt := 280) hx hb dM_find_276 (by decide) ?_
            refine lv_istore (lv' := [(9, .int (1)), (11, .int (nI (gW b g ev ms (fi) false ((nx) - (ev - 16)) (st)))), (10, .int (1)), (2, .int (nI (Lf))), (7, .int (nI (nx))), (8, .int (nI (st))), (0, .ref (r 0)), (1, .int (kv)), (3, .int (nI (fi))), (5, .int (nI (e1))), (6, .int (nI (st)))]) hx hb dM_find_280 hl (by decide) rfl (fun ls hl => ?_)
            refine lv_iload hx hb dM_find_282 (lv_at hl 0 rfl) ?_
            refine lv_if_ne (tgt := 328) hx hb dM_find_284 (by decide) (fun _ => ?_) (fun c9 => absurd c9 (by decide))
            refine lv_goto (tgt := 176) hx hb dM_find_328 (by decide) ?_
            exact kC (by rw [hF]; exact c_272) _ H locs ls (lv_sub hl [3, 4, 5, 0, 6, 7, 8, 9, 10] rfl) hP hD hS
set_option maxHeartbeats 4000000 in
set_option maxRecDepth 100000 in
theorem lM_P2 (l : Launch) (dC : Nat → ClassId) (dI : Nat → Nat → Nat) (r : Nat → Nat) (cI cZ cG : ClassId) (b : Nat → Nat → Int32) (g : Nat → Int32) {p : Program} {e : Env} {s : State} {m : MethodId} {args : Array Value} {below : List Frame} {meth : Method} {c : Code} {Q : State → Prop} {A : Nat → Prop} (ev ms fi e1 st : Nat) (kv : Int32) (hev : ev ≤ 400) (hg1 : g 1 = nI ev) (h0 : 1 ≤ ms) (hm : ms ≤ 5) (hg4 : g 4 = nI ms) (hfi : fi ≤ e1) (he : e1 < ev) (hbs : ev - 16 ≤ e1) (hst : st < ms) {cells slots : Nat} (hcs : cells ≤ 0 ∧ slots ≤ 0) (hx : p.tables.exec = Jvm.exec) (hb : c.code = cM_find) (hml : c.maxLocals = 12) (hown : s.vm.findClass "EventPatternsModel" = some m.cls) (hbw : ∀ w ∈ bw, w.before args s = true) (hK : va_K (dC, dI) cls2 (xt cI cZ cG) s) (hA : ∀ q : Nat, s.heap.size ≤ q → A q) (nx Lf : Nat) (hn1 : e1 < nx) (hn2 : nx < ev) (hLf : Lf < 2 ^ 31) (y : Nat → Int32) (H : Heap) (locs : List Loc) (ls : Array Slot) (hl : lv_has ls 12 [(2, .int (nI (Lf))), (7, .int (nI (nx))), (8, .int (nI (st + 1))), (9, .int (0)), (0, .ref (r 0)), (1, .int (kv)), (3, .int (nI (fi))), (5, .int (nI (e1))), (6, .int (nI (st)))]) (hP : va_P (dC, dI) cls2 (mw r cI cZ (va_up b 7 (y)) g) H) (hD : va_D A (mw r cI cZ (va_up b 7 (y)) g)) (hS : va_S A s.heap H locs)
    (kC : Lf < mF2 b g ev ms fi e1 st nx → ∀ (y : Nat → Int32) (H : Heap) (locs : List Loc) (ls : Array Slot), lv_has ls 12 [(2, .int (nI (Lf))), (7, .int (nI (nx))), (8, .int (nI (st + 1))), (9, .int (1)), (0, .ref (r 0)), (1, .int (kv)), (3, .int (nI (fi))), (5, .int (nI (e1))), (6, .int (nI (st)))] → va_P (dC, dI) cls2 (mw r cI cZ (va_up b 7 (y)) g) H → va_D A (mw r cI cZ (va_up b 7 (y)) g) → va_S A s.heap H locs → W p l e ({ frames := 2, cells := 0, slots := 0, locals := 57 }) s m args below meth c H locs cells slots Q (F0 m 176 ls []))
    (kN : mF2 b g ev ms fi e1 st nx ≤ Lf → ∀ (y : Nat → Int32) (H : Heap) (locs : List Loc) (ls : Array Slot), lv_has ls 12 [(2, .int (nI (Lf - mF2 b g ev ms fi e1 st nx))), (7, .int (nI (nx + 1))), (8, .int (nI (st))), (9, .int (0)), (0, .ref (r 0)), (1, .int (kv)), (3, .int (nI (fi))), (5, .int (nI (e1))), (6, .int (nI (st)))] → va_P (dC, dI) cls2 (mw r cI cZ (va_up b 7 (y)) g) H → va_D A (mw r cI cZ (va_up b 7 (y)) g) → va_S A s.heap H locs → W p l e ({ frames := 2, cells := 0, slots := 0, locals := 57 }) s m args below meth c H locs cells slots Q (F0 m 176 ls [])) : W p l e ({ frames := 2, cells := 0, slots := 0, locals := 57 }) s m args below meth c H locs cells slots Q (F0 m 176 ls []) := by
  refine lv_iload hx hb dM_find_176 (lv_at hl 3 rfl) ?_
  refine lv_if_ne (tgt := 331) hx hb dM_find_178 (by decide) (fun c9 => absurd c9 (by decide)) (fun _ => ?_)
  refine lv_iload hx hb dM_find_181 (lv_at hl 2 rfl) ?_
  refine lv_iload hx hb dM_find_183 (lv_at hl 8 rfl) ?_
  refine nr_icmp_le (tgt := 200) hx hb (a1 := st + 1) (b1 := st) (by omega) (by omega) dM_find_185 (by decide) (fun c9 => absurd c9 (by omega)) (fun _ => ?_)
  refine lv_iload hx hb dM_find_188 (lv_at hl 2 rfl) ?_
  refine lv_aload_n hx hb dM_find_190 rfl (lv_at hl 4 rfl) ?_
  refine va_get (D := (dC, dI)) (ci := 1) (v := .int (nI (ms))) (C := "EventPatternsModel") (T := TM) (N := 16) hx hb hbw inM hown hK hP 0 rfl rfl 7 (by decide) (hbw _ kf_M_63) (fun _ h9 => h9) (congrArg (fun z => some (Value.int z)) (hg4)) dM_find_191 ?_
  refine nr_icmp_ge (tgt := 245) hx hb (a1 := st + 1) (b1 := ms) (by omega) (by omega) dM_find_194 (by decide) (fun c_194 => ?_) (fun c_194 => ?_)
  · refine lv_iconst (v := 0) hx hb dM_find_245 (by decide) ?_
    refine lv_istore (lv' := [(10, .int (0)), (2, .int (nI (Lf))), (7, .int (nI (nx))), (8, .int (nI (st + 1))), (9, .int (0)), (0, .ref (r 0)), (1, .int (kv)), (3, .int (nI (fi))), (5, .int (nI (e1))), (6, .int (nI (st)))]) hx hb dM_find_246 hl (by decide) rfl (fun ls hl => ?_)
    refine lv_iload hx hb dM_find_248 (lv_at hl 0 rfl) ?_
    refine lv_if_eq (tgt := 266) hx hb dM_find_250 (by decide) (fun _ => ?_) (fun c9 => absurd c9 (by decide))
    refine lv_iconst (v := 0) hx hb dM_find_266 (by decide) ?_
    refine lv_istore (lv' := [(11, .int (0)), (10, .int (0)), (2, .int (nI (Lf))), (7, .int (nI (nx))), (8, .int (nI (st + 1))), (9, .int (0)), (0, .ref (r 0)), (1, .int (kv)), (3, .int (nI (fi))), (5, .int (nI (e1))), (6, .int (nI (st)))]) hx hb dM_find_267 hl (by decide) rfl (fun ls hl => ?_)
    have hB : (decide (st + 1 < ms) && ((decide (g 2 = 1) || decide (nx = e1 + 1)) && mFit1 b g nx (st + 1) e1 fi)) = false := by first | exact (by rw [decide_eq_false (show ¬ st + 1 < ms by omega)]; rfl) | exact (by rw [decide_eq_false c_215, decide_eq_false c_224]; cases decide (st + 1 < ms) <;> rfl) | exact (by rw [c_238]; cases decide (st + 1 < ms) <;> cases (decide (g 2 = 1) || decide (nx = e1 + 1)) <;> rfl)
    have hF : mF2 b g ev ms fi e1 st nx = 0 := by unfold mF2; rw [hB]; rfl
    refine lv_iload_n hx hb dM_find_269 rfl (lv_at hl 2 rfl) ?_
    refine lv_iload hx hb dM_find_270 (lv_at hl 0 rfl) ?_
    refine nr_icmp_ge (tgt := 279) hx hb (a1 := Lf) (b1 := 0) (by omega) (by omega) dM_find_272 (by decide) (fun c_272 => ?_) (fun c_272 => absurd c_272 (by omega))
    refine lv_iconst (v := 0) hx hb dM_find_279 (by decide) ?_
    refine lv_istore (lv' := [(9, .int (0)), (11, .int (0)), (10, .int (0)), (2, .int (nI (Lf))), (7, .int (nI (nx))), (8, .int (nI (st + 1))), (0, .ref (r 0)), (1, .int (kv)), (3, .int (nI (fi))), (5, .int (nI (e1))), (6, .int (nI (st)))]) hx hb dM_find_280 hl (by decide) rfl (fun ls hl => ?_)
    refine lv_iload hx hb dM_find_282 (lv_at hl 0 rfl) ?_
    refine lv_if_ne (tgt := 328) hx hb dM_find_284 (by decide) (fun c9 => absurd c9 (by decide)) (fun _ => ?_)
    refine lv_iload_n hx hb dM_find_287 rfl (lv_at hl 3 rfl) ?_
    refine lv_iload hx hb dM_find_288 (lv_at hl 1 rfl) ?_
    refine nr_isub hx hb (a1 := Lf) (b1 := 0) (by omega) dM_find_290 ?_
    refine lv_istore_n (lv' := [(2, .int (nI (Lf - 0))), (9, .int (0)), (11, .int (0)), (10, .int (0)), (7, .int (nI (nx))), (8, .int (nI (st + 1))), (0, .ref (r 0)), (1, .int (kv)), (3, .int (nI (fi))), (5, .int (nI (e1))), (6, .int (nI (st)))]) hx hb dM_find_291 rfl hl (by decide) rfl (fun ls hl => ?_)
    refine lv_iload hx hb dM_find_292 (lv_at hl 5 rfl) ?_
    refine lv_iload hx hb dM_find_294 (lv_at hl 10 rfl) ?_
    refine nr_icmp_le (tgt := 306) hx hb (a1 := st + 1) (b1 := st) (by omega) (by omega) dM_find_296 (by decide) (fun c9 => absurd c9 (by omega)) (fun _ => ?_)
    refine lv_iload hx hb dM_find_299 (lv_at hl 4 rfl) ?_
    refine lv_iconst (v := 1) hx hb dM_find_301 (by decide) ?_
    refine nr_iadd hx hb (a1 := nx) (b1 := 1) dM_find_302 ?_
    refine lv_goto (tgt := 308) hx hb dM_find_303 (by decide) ?_
    refine lv_istore (lv' := [(7, .int (nI (nx + 1))), (2, .int (nI (Lf - 0))), (9, .int (0)), (11, .int (0)), (10, .int (0)), (8, .int (nI (st + 1))), (0, .ref (r 0)), (1, .int (kv)), (3, .int (nI (fi))), (5, .int (nI (e1))), (6, .int (nI (st)))]) hx hb dM_find_308 hl (by decide) rfl (fun ls hl => ?_)
    refine lv_iload hx hb dM_find_310 (lv_at hl 5 rfl) ?_
    refine lv_iload hx hb dM_find_312 (lv_at hl 10 rfl) ?_
    refine nr_icmp_le (tgt := 322) hx hb (a1 := st + 1) (b1 := st) (by omega) (by omega) dM_find_314 (by decide) (fun c9 => absurd c9 (by omega)) (fun _ => ?_)
    refine lv_iload hx hb dM_find_317 (lv_at hl 10 rfl) ?_
    refine lv_goto (tgt := 326) hx hb dM_find_319 (by decide) ?_
    refine lv_istore (lv' := [(8, .int (nI (st))), (7, .int (nI (nx + 1))), (2, .int (nI (Lf - 0))), (9, .int (0)), (11, .int (0)), (10, .int (0)), (0, .ref (r 0)), (1, .int (kv)), (3, .int (nI (fi))), (5, .int (nI (e1))), (6, .int (nI (st)))]) hx hb dM_find_326 hl (by decide) rfl (fun ls hl => ?_)
    refine lv_goto (tgt := 176) hx hb dM_find_328 (by decide) ?_
    exact kN (by rw [hF]; exact c_272) _ H locs ls (by rw [hF]; exact (lv_sub hl [2, 1, 0, 3, 6, 7, 8, 9, 10] rfl)) hP hD hS
  · refine lv_goto (tgt := 210) hx hb dM_find_197 (by decide) ?_
    refine lv_aload_n hx hb dM_find_210 rfl (lv_at hl 4 rfl) ?_
    refine va_get (D := (dC, dI)) (ci := 1) (v := .int (g 2)) (C := "EventPatternsModel") (T := TM) (N := 16) hx hb hbw inM hown hK hP 0 rfl rfl 5 (by decide) (hbw _ kf_M_57) (fun _ h9 => h9) rfl dM_find_211 ?_
    refine lv_iconst (v := 1) hx hb dM_find_214 (by decide) ?_
    refine lv_icmp_eq (tgt := 227) hx hb dM_find_215 (by decide) (fun c_215 => ?_) (fun c_215 => ?_)
    · refine lv_aload_n hx hb dM_find_227 rfl (lv_at hl 4 rfl) ?_
      refine lv_iload hx hb dM_find_228 (lv_at hl 1 rfl) ?_
      refine lv_iload hx hb dM_find_230 (lv_at hl 2 rfl) ?_
      refine lv_iload hx hb dM_find_232 (lv_at hl 7 rfl) ?_
      refine lv_iload_n hx hb dM_find_234 rfl (lv_at hl 6 rfl) ?_
      refine vp_callSi (W.runV (As := [.int (nI (nx)), .int (nI (st + 1)), .int (nI (e1)), .int (nI (fi))]) (rest := []) ⟨hx, hb, hml, hown, hbw⟩ (tM_fits1 l dC dI r cI cZ cG (va_up b 7 (y)) (g) (nx) (st + 1) (e1) (fi) (by omega) (by omega) (by omega) (by omega)) (cwV 4 hbw (bw_V km_M_70 ki_yM_fits ksel_yM_fits ki_EventPatternsModel kcM_fits) rfl rfl rfl (by decide +kernel) ⟨Nat.le_of_ble_eq_true rfl, Nat.le_of_ble_eq_true rfl⟩) ⟨fun a U g mk q => by obtain ⟨q0, qP, qK⟩ := q; exact ⟨q0, qP, va_K.moved (u := U) (U := U.calling g mk a) (Vm.Alike.refl U.vm) qK⟩, va_recv hK hP (ci := 1) (q0 := 0) rfl rfl, fun U hU hW => ⟨rfl, by rw [hU]; exact hP, va_K.moved hW.alike hK⟩⟩ rfl rfl hl.1 rfl (lv_room (Nat.le_of_ble_eq_true rfl)) dM_find_235 ⟨hcs.1, hcs.2⟩) (fun r_235 hq => ?_)
      have hq : r_235 = bI (mFit1 b g (nx) (st + 1) (e1) (fi)) := hq
      subst hq
      refine nr_ifb_eq (tgt := 245) hx hb (b := (mFit1 b g (nx) (st + 1) (e1) (fi))) dM_find_238 (by decide) (fun c_238 => ?_) (fun c_238 => ?_)
      · refine lv_iconst (v := 0) hx hb dM_find_245 (by decide) ?_
        refine lv_istore (lv' := [(10, .int (0)), (2, .int (nI (Lf))), (7, .int (nI (nx))), (8, .int (nI (st + 1))), (9, .int (0)), (0, .ref (r 0)), (1, .int (kv)), (3, .int (nI (fi))), (5, .int (nI (e1))), (6, .int (nI (st)))]) hx hb dM_find_246 hl (by decide) rfl (fun ls hl => ?_)
        refine lv_iload hx hb dM_find_248 (lv_at hl 0 rfl) ?_
        refine lv_if_eq (tgt := 266) hx hb dM_find_250 (by decide) (fun _ => ?_) (fun c9 => absurd c9 (by decide))
        refine lv_iconst (v := 0) hx hb dM_find_266 (by decide) ?_
        refine lv_istore (lv' := [(11, .int (0)), (10, .int (0)), (2, .int (nI (Lf))), (7, .int (nI (nx))), (8, .int (nI (st + 1))), (9, .int (0)), (0, .ref (r 0)), (1, .int (kv)), (3, .int (nI (fi))), (5, .int (nI (e1))), (6, .int (nI (st)))]) hx hb dM_find_267 hl (by decide) rfl (fun ls hl => ?_)
        have hB : (decide (st + 1 < ms) && ((decide (g 2 = 1) || decide (nx = e1 + 1)) && mFit1 b g nx (st + 1) e1 fi)) = false := by first | exact (by rw [decide_eq_false (show ¬ st + 1 < ms by omega)]; rfl) | exact (by rw [decide_eq_false c_215, decide_eq_false c_224]; cases decide (st + 1 < ms) <;> rfl) | exact (by rw [c_238]; cases decide (st + 1 < ms) <;> cases (decide (g 2 = 1) || decide (nx = e1 + 1)) <;> rfl)
        have hF : mF2 b g ev ms fi e1 st nx = 0 := by unfold mF2; rw [hB]; rfl
        refine lv_iload_n hx hb dM_find_269 rfl (lv_at hl 2 rfl) ?_
        refine lv_iload hx hb dM_find_270 (lv_at hl 0 rfl) ?_
        refine nr_icmp_ge (tgt := 279) hx hb (a1 := Lf) (b1 := 0) (by omega) (by omega) dM_find_272 (by decide) (fun c_272 => ?_) (fun c_272 => absurd c_272 (by omega))
        refine lv_iconst (v := 0) hx hb dM_find_279 (by decide) ?_
        refine lv_istore (lv' := [(9, .int (0)), (11, .int (0)), (10, .int (0)), (2, .int (nI (Lf))), (7, .int (nI (nx))), (8, .int (nI (st + 1))), (0, .ref (r 0)), (1, .int (kv)), (3, .int (nI (fi))), (5, .int (nI (e1))), (6, .int (nI (st)))]) hx hb dM_find_280 hl (by decide) rfl (fun ls hl => ?_)
        refine lv_iload hx hb dM_find_282 (lv_at hl 0 rfl) ?_
        refine lv_if_ne (tgt := 328) hx hb dM_find_284 (by decide) (fun c9 => absurd c9 (by decide)) (fun _ => ?_)
        refine lv_iload_n hx hb dM_find_287 rfl (lv_at hl 3 rfl) ?_
        refine lv_iload hx hb dM_find_288 (lv_at hl 1 rfl) ?_
        refine nr_isub hx hb (a1 := Lf) (b1 := 0) (by omega) dM_find_290 ?_
        refine lv_istore_n (lv' := [(2, .int (nI (Lf - 0))), (9, .int (0)), (11, .int (0)), (10, .int (0)), (7, .int (nI (nx))), (8, .int (nI (st + 1))), (0, .ref (r 0)), (1, .int (kv)), (3, .int (nI (fi))), (5, .int (nI (e1))), (6, .int (nI (st)))]) hx hb dM_find_291 rfl hl (by decide) rfl (fun ls hl => ?_)
        refine lv_iload hx hb dM_find_292 (lv_at hl 5 rfl) ?_
        refine lv_iload hx hb dM_find_294 (lv_at hl 10 rfl) ?_
        refine nr_icmp_le (tgt := 306) hx hb (a1 := st + 1) (b1 := st) (by omega) (by omega) dM_find_296 (by decide) (fun c9 => absurd c9 (by omega)) (fun _ => ?_)
        refine lv_iload hx hb dM_find_299 (lv_at hl 4 rfl) ?_
        refine lv_iconst (v := 1) hx hb dM_find_301 (by decide) ?_
        refine nr_iadd hx hb (a1 := nx) (b1 := 1) dM_find_302 ?_
        refine lv_goto (tgt := 308) hx hb dM_find_303 (by decide) ?_
        refine lv_istore (lv' := [(7, .int (nI (nx + 1))), (2, .int (nI (Lf - 0))), (9, .int (0)), (11, .int (0)), (10, .int (0)), (8, .int (nI (st + 1))), (0, .ref (r 0)), (1, .int (kv)), (3, .int (nI (fi))), (5, .int (nI (e1))), (6, .int (nI (st)))]) hx hb dM_find_308 hl (by decide) rfl (fun ls hl => ?_)
        refine lv_iload hx hb dM_find_310 (lv_at hl 5 rfl) ?_
        refine lv_iload hx hb dM_find_312 (lv_at hl 10 rfl) ?_
        refine nr_icmp_le (tgt := 322) hx hb (a1 := st + 1) (b1 := st) (by omega) (by omega) dM_find_314 (by decide) (fun c9 => absurd c9 (by omega)) (fun _ => ?_)
        refine lv_iload hx hb dM_find_317 (lv_at hl 10 rfl) ?_
        refine lv_goto (tgt := 326) hx hb dM_find_319 (by decide) ?_
        refine lv_istore (lv' := [(8, .int (nI (st))), (7, .int (nI (nx + 1))), (2, .int (nI (Lf - 0))), (9, .int (0)), (11, .int (0)), (10, .int (0)), (0, .ref (r 0)), (1, .int (kv)), (3, .int (nI (fi))), (5, .int (nI (e1))), (6, .int (nI (st)))]) hx hb dM_find_326 hl (by decide) rfl (fun ls hl => ?_)
        refine lv_goto (tgt := 176) hx hb dM_find_328 (by decide) ?_
        exact kN (by rw [hF]; exact c_272) _ H locs ls (by rw [hF]; exact (lv_sub hl [2, 1, 0, 3, 6, 7, 8, 9, 10] rfl)) hP hD hS
      · refine lv_iconst (v := 1) hx hb dM_find_241 (by decide) ?_
        refine lv_goto (tgt := 246) hx hb dM_find_242 (by decide) ?_
        refine lv_istore (lv' := [(10, .int (1)), (2, .int (nI (Lf))), (7, .int (nI (nx))), (8, .int (nI (st + 1))), (9, .int (0)), (0, .ref (r 0)), (1, .int (kv)), (3, .int (nI (fi))), (5, .int (nI (e1))), (6, .int (nI (st)))]) hx hb dM_find_246 hl (by decide) rfl (fun ls hl => ?_)
        refine lv_iload hx hb dM_find_248 (lv_at hl 0 rfl) ?_
        refine lv_if_eq (tgt := 266) hx hb dM_find_250 (by decide) (fun c9 => absurd c9 (by decide)) (fun _ => ?_)
        refine lv_aload_n hx hb dM_find_253 rfl (lv_at hl 5 rfl) ?_
        refine lv_iload_n hx hb dM_find_254 rfl (lv_at hl 7 rfl) ?_
        refine lv_iload hx hb dM_find_255 (lv_at hl 2 rfl) ?_
        refine lv_iload hx hb dM_find_257 (lv_at hl 3 rfl) ?_
        refine lv_iconst (v := 0) hx hb dM_find_259 (by decide) ?_
        have hFc := va_free (wc := mw r cI cZ (va_up b 7 (y)) (g)) hD hS hA (List.range 11) rfl
        refine va_calli (va_runV (As := [.int (nI (fi)), .int (nI (nx)), .int (nI (st + 1)), .int (0)]) (rest := []) ⟨hx, hb, hml, hown, hbw⟩ (tM_waysFrom l dC dI r cI cZ cG (va_up b 7 (y)) (g) H.size ev ms (fi) (nx) (st + 1) false hev hg1 h0 hm hg4 (by omega) (by omega) (by omega) (by omega)) (cwV 4 hbw (bw_V km_M_74 ki_yM_waysFrom ksel_yM_waysFrom ki_EventPatternsModel kcM_waysFrom) rfl rfl rfl (by decide +kernel) ⟨Nat.le_of_ble_eq_true rfl, Nat.le_of_ble_eq_true rfl⟩) ⟨fun a U g mk q => by obtain ⟨q0, q1, qP, qK, qD⟩ := q; exact ⟨q0, q1, qP, va_K.moved (u := U) (U := U.calling g mk a) (Vm.Alike.refl U.vm) qK, qD⟩, va_recv hK hP (ci := 1) (q0 := 0) rfl rfl, fun U hU hW => ⟨rfl, by rw [hU], by rw [hU]; exact hP, va_K.moved hW.alike hK, hD.weaken (fun _ _ _ _ => trivial)⟩⟩ rfl rfl hl.1 rfl (lv_room (Nat.le_of_ble_eq_true rfl)) dM_find_260 ⟨hcs.1, hcs.2⟩) hS (fun q _ h => hFc q h) hFc (fun r_260 u t H1 locs ht hvm hq hB hz1 hk1 hS => ?_)
        obtain ⟨yz, y3, hyz, hq1, hq⟩ := hq
        rw [mWays hm (by omega) (by omega) (by omega) hyz, gW_c up7 rfl rfl] at hq1
        subst hq1
        obtain rfl := hq
        obtain ⟨hP1, hK1, hD1⟩ := hB
        rw [ht] at hP1
        have hP : va_P (dC, dI) cls2 (mw r cI cZ (va_up b 7 (y3)) (g)) H1 := hP1
        have hD : va_D A (mw r cI cZ (va_up b 7 (y3)) (g)) := hD1.weaken (fun _ _ _ h => hFc _ h)
        generalize H1 = H at hP hS ⊢
        refine lv_goto (tgt := 267) hx hb dM_find_263 (by decide) ?_
        refine lv_istore (lv' := [(11, .int (nI (gW b g ev ms (fi) false ((nx) - (ev - 16)) (st + 1)))), (10, .int (1)), (2, .int (nI (Lf))), (7, .int (nI (nx))), (8, .int (nI (st + 1))), (9, .int (0)), (0, .ref (r 0)), (1, .int (kv)), (3, .int (nI (fi))), (5, .int (nI (e1))), (6, .int (nI (st)))]) hx hb dM_find_267 hl (by decide) rfl (fun ls hl => ?_)
        have hB : (decide (st + 1 < ms) && ((decide (g 2 = 1) || decide (nx = e1 + 1)) && mFit1 b g nx (st + 1) e1 fi)) = true := by
          rw [decide_eq_true c_194, c_238]
          first | (rw [decide_eq_true c_215]; rfl) | (rw [decide_eq_true c_224, Bool.or_true]; rfl)
        have hF : mF2 b g ev ms fi e1 st nx = gW b g ev ms (fi) false ((nx) - (ev - 16)) (st + 1) := by unfold mF2; rw [hB]; rfl
        have hgw : gW b g ev ms (fi) false ((nx) - (ev - 16)) (st + 1) ≤ 14348907 := gW_le b g ev ms fi false (by omega)
        refine lv_iload_n hx hb dM_find_269 rfl (lv_at hl 2 rfl) ?_
        refine lv_iload hx hb dM_find_270 (lv_at hl 0 rfl) ?_
        refine nr_icmp_ge (tgt := 279) hx hb (a1 := Lf) (b1 := gW b g ev ms (fi) false ((nx) - (ev - 16)) (st + 1)) (by omega) (by omega) dM_find_272 (by decide) (fun c_272 => ?_) (fun c_272 => ?_)
        · refine lv_iconst (v := 0) hx hb dM_find_279 (by decide) ?_
          refine lv_istore (lv' := [(9, .int (0)), (11, .int (nI (gW b g ev ms (fi) false ((nx) - (ev - 16)) (st + 1)))), (10, .int (1)), (2, .int (nI (Lf))), (7, .int (nI (nx))), (8, .int (nI (st + 1))), (0, .ref (r 0)), (1, .int (kv)), (3, .int (nI (fi))), (5, .int (nI (e1))), (6, .int (nI (st)))]) hx hb dM_find_280 hl (by decide) rfl (fun ls hl => ?_)
          refine lv_iload hx hb dM_find_282 (lv_at hl 0 rfl) ?_
          refine lv_if_ne (tgt := 328) hx hb dM_find_284 (by decide) (fun c9 => absurd c9 (by decide)) (fun _ => ?_)
          refine lv_iload_n hx hb dM_find_287 rfl (lv_at hl 3 rfl) ?_
          refine lv_iload hx hb dM_find_288 (lv_at hl 1 rfl) ?_
          refine nr_isub hx hb (a1 := Lf) (b1 := gW b g ev ms (fi) false ((nx) - (ev - 16)) (st + 1)) (by omega) dM_find_290 ?_
          refine lv_istore_n (lv' := [(2, .int (nI (Lf - (gW b g ev ms (fi) false ((nx) - (ev - 16)) (st + 1))))), (9, .int (0)), (11, .int (nI (gW b g ev ms (fi) false ((nx) - (ev - 16)) (st + 1)))), (10, .int (1)), (7, .int (nI (nx))), (8, .int (nI (st + 1))), (0, .ref (r 0)), (1, .int (kv)), (3, .int (nI (fi))), (5, .int (nI (e1))), (6, .int (nI (st)))]) hx hb dM_find_291 rfl hl (by decide) rfl (fun ls hl => ?_)
          refine lv_iload hx hb dM_find_292 (lv_at hl 5 rfl) ?_
          refine lv_iload hx hb dM_find_294 (lv_at hl 10 rfl) ?_
          refine nr_icmp_le (tgt := 306) hx hb (a1 := st + 1) (b1 := st) (by omega) (by omega) dM_find_296 (by decide) (fun c9 => absurd c9 (by omega)) (fun _ => ?_)
          refine lv_iload hx hb dM_find_299 (lv_at hl 4 rfl) ?_
          refine lv_iconst (v := 1) hx hb dM_find_301 (by decide) ?_
          refine nr_iadd hx hb (a1 := nx) (b1 := 1) dM_find_302 ?_
          refine lv_goto (tgt := 308) hx hb dM_find_303 (by decide) ?_
          refine lv_istore (lv' := [(7, .int (nI (nx + 1))), (2, .int (nI (Lf - (gW b g ev ms (fi) false ((nx) - (ev - 16)) (st + 1))))), (9, .int (0)), (11, .int (nI (gW b g ev ms (fi) false ((nx) - (ev - 16)) (st + 1)))), (10, .int (1)), (8, .int (nI (st + 1))), (0, .ref (r 0)), (1, .int (kv)), (3, .int (nI (fi))), (5, .int (nI (e1))), (6, .int (nI (st)))]) hx hb dM_find_308 hl (by decide) rfl (fun ls hl => ?_)
          refine lv_iload hx hb dM_find_310 (lv_at hl 5 rfl) ?_
          refine lv_iload hx hb dM_find_312 (lv_at hl 10 rfl) ?_
          refine nr_icmp_le (tgt := 322) hx hb (a1 := st + 1) (b1 := st) (by omega) (by omega) dM_find_314 (by decide) (fun c9 => absurd c9 (by omega)) (fun _ => ?_)
          refine lv_iload hx hb dM_find_317 (lv_at hl 10 rfl) ?_
          refine lv_goto (tgt := 326) hx hb dM_find_319 (by decide) ?_
          refine lv_istore (lv' := [(8, .int (nI (st))), (7, .int (nI (nx + 1))), (2, .int (nI (Lf - (gW b g ev ms (fi) false ((nx) - (ev - 16)) (st + 1))))), (9, .int (0)), (11, .int (nI (gW b g ev ms (fi) false ((nx) - (ev - 16)) (st + 1)))), (10, .int (1)), (0, .ref (r 0)), (1, .int (kv)), (3, .int (nI (fi))), (5, .int (nI (e1))), (6, .int (nI (st)))]) hx hb dM_find_326 hl (by decide) rfl (fun ls hl => ?_)
          refine lv_goto (tgt := 176) hx hb dM_find_328 (by decide) ?_
          exact kN (by rw [hF]; exact c_272) _ H locs ls (by rw [hF]; exact (lv_sub hl [2, 1, 0, 3, 6, 7, 8, 9, 10] rfl)) hP hD hS
        · refine lv_iconst (v := 1) hx hb dM_find_275 (by decide) ?_
          refine lv_goto (tgt := 280) hx hb dM_find_276 (by decide) ?_
          refine lv_istore (lv' := [(9, .int (1)), (11, .int (nI (gW b g ev ms (fi) false ((nx) - (ev - 16)) (st + 1)))), (10, .int (1)), (2, .int (nI (Lf))), (7, .int (nI (nx))), (8, .int (nI (st + 1))), (0, .ref (r 0)), (1, .int (kv)), (3, .int (nI (fi))), (5, .int (nI (e1))), (6, .int (nI (st)))]) hx hb dM_find_280 hl (by decide) rfl (fun ls hl => ?_)
          refine lv_iload hx hb dM_find_282 (lv_at hl 0 rfl) ?_
          refine lv_if_ne (tgt := 328) hx hb dM_find_284 (by decide) (fun _ => ?_) (fun c9 => absurd c9 (by decide))
          refine lv_goto (tgt := 176) hx hb dM_find_328 (by decide) ?_
          exact kC (by rw [hF]; exact c_272) _ H locs ls (lv_sub hl [3, 4, 5, 0, 6, 7, 8, 9, 10] rfl) hP hD hS
    · refine lv_iload hx hb dM_find_218 (lv_at hl 1 rfl) ?_
      refine lv_iload hx hb dM_find_220 (lv_at hl 7 rfl) ?_
      refine lv_iconst (v := 1) hx hb dM_find_222 (by decide) ?_
      refine nr_iadd hx hb (a1 := e1) (b1 := 1) dM_find_223 ?_
      refine nr_icmp_ne (tgt := 245) hx hb (a1 := nx) (b1 := e1 + 1) (by omega) (by omega) dM_find_224 (by decide) (fun c_224 => ?_) (fun c_224 => ?_)
      · refine lv_iconst (v := 0) hx hb dM_find_245 (by decide) ?_
        refine lv_istore (lv' := [(10, .int (0)), (2, .int (nI (Lf))), (7, .int (nI (nx))), (8, .int (nI (st + 1))), (9, .int (0)), (0, .ref (r 0)), (1, .int (kv)), (3, .int (nI (fi))), (5, .int (nI (e1))), (6, .int (nI (st)))]) hx hb dM_find_246 hl (by decide) rfl (fun ls hl => ?_)
        refine lv_iload hx hb dM_find_248 (lv_at hl 0 rfl) ?_
        refine lv_if_eq (tgt := 266) hx hb dM_find_250 (by decide) (fun _ => ?_) (fun c9 => absurd c9 (by decide))
        refine lv_iconst (v := 0) hx hb dM_find_266 (by decide) ?_
        refine lv_istore (lv' := [(11, .int (0)), (10, .int (0)), (2, .int (nI (Lf))), (7, .int (nI (nx))), (8, .int (nI (st + 1))), (9, .int (0)), (0, .ref (r 0)), (1, .int (kv)), (3, .int (nI (fi))), (5, .int (nI (e1))), (6, .int (nI (st)))]) hx hb dM_find_267 hl (by decide) rfl (fun ls hl => ?_)
        have hB : (decide (st + 1 < ms) && ((decide (g 2 = 1) || decide (nx = e1 + 1)) && mFit1 b g nx (st + 1) e1 fi)) = false := by first | exact (by rw [decide_eq_false (show ¬ st + 1 < ms by omega)]; rfl) | exact (by rw [decide_eq_false c_215, decide_eq_false c_224]; cases decide (st + 1 < ms) <;> rfl) | exact (by rw [c_238]; cases decide (st + 1 < ms) <;> cases (decide (g 2 = 1) || decide (nx = e1 + 1)) <;> rfl)
        have hF : mF2 b g ev ms fi e1 st nx = 0 := by unfold mF2; rw [hB]; rfl
        refine lv_iload_n hx hb dM_find_269 rfl (lv_at hl 2 rfl) ?_
        refine lv_iload hx hb dM_find_270 (lv_at hl 0 rfl) ?_
        refine nr_icmp_ge (tgt := 279) hx hb (a1 := Lf) (b1 := 0) (by omega) (by omega) dM_find_272 (by decide) (fun c_272 => ?_) (fun c_272 => absurd c_272 (by omega))
        refine lv_iconst (v := 0) hx hb dM_find_279 (by decide) ?_
        refine lv_istore (lv' := [(9, .int (0)), (11, .int (0)), (10, .int (0)), (2, .int (nI (Lf))), (7, .int (nI (nx))), (8, .int (nI (st + 1))), (0, .ref (r 0)), (1, .int (kv)), (3, .int (nI (fi))), (5, .int (nI (e1))), (6, .int (nI (st)))]) hx hb dM_find_280 hl (by decide) rfl (fun ls hl => ?_)
        refine lv_iload hx hb dM_find_282 (lv_at hl 0 rfl) ?_
        refine lv_if_ne (tgt := 328) hx hb dM_find_284 (by decide) (fun c9 => absurd c9 (by decide)) (fun _ => ?_)
        refine lv_iload_n hx hb dM_find_287 rfl (lv_at hl 3 rfl) ?_
        refine lv_iload hx hb dM_find_288 (lv_at hl 1 rfl) ?_
        refine nr_isub hx hb (a1 := Lf) (b1 := 0) (by omega) dM_find_290 ?_
        refine lv_istore_n (lv' := [(2, .int (nI (Lf - 0))), (9, .int (0)), (11, .int (0)), (10, .int (0)), (7, .int (nI (nx))), (8, .int (nI (st + 1))), (0, .ref (r 0)), (1, .int (kv)), (3, .int (nI (fi))), (5, .int (nI (e1))), (6, .int (nI (st)))]) hx hb dM_find_291 rfl hl (by decide) rfl (fun ls hl => ?_)
        refine lv_iload hx hb dM_find_292 (lv_at hl 5 rfl) ?_
        refine lv_iload hx hb dM_find_294 (lv_at hl 10 rfl) ?_
        refine nr_icmp_le (tgt := 306) hx hb (a1 := st + 1) (b1 := st) (by omega) (by omega) dM_find_296 (by decide) (fun c9 => absurd c9 (by omega)) (fun _ => ?_)
        refine lv_iload hx hb dM_find_299 (lv_at hl 4 rfl) ?_
        refine lv_iconst (v := 1) hx hb dM_find_301 (by decide) ?_
        refine nr_iadd hx hb (a1 := nx) (b1 := 1) dM_find_302 ?_
        refine lv_goto (tgt := 308) hx hb dM_find_303 (by decide) ?_
        refine lv_istore (lv' := [(7, .int (nI (nx + 1))), (2, .int (nI (Lf - 0))), (9, .int (0)), (11, .int (0)), (10, .int (0)), (8, .int (nI (st + 1))), (0, .ref (r 0)), (1, .int (kv)), (3, .int (nI (fi))), (5, .int (nI (e1))), (6, .int (nI (st)))]) hx hb dM_find_308 hl (by decide) rfl (fun ls hl => ?_)
        refine lv_iload hx hb dM_find_310 (lv_at hl 5 rfl) ?_
        refine lv_iload hx hb dM_find_312 (lv_at hl 10 rfl) ?_
        refine nr_icmp_le (tgt := 322) hx hb (a1 := st + 1) (b1 := st) (by omega) (by omega) dM_find_314 (by decide) (fun c9 => absurd c9 (by omega)) (fun _ => ?_)
        refine lv_iload hx hb dM_find_317 (lv_at hl 10 rfl) ?_
        refine lv_goto (tgt := 326) hx hb dM_find_319 (by decide) ?_
        refine lv_istore (lv' := [(8, .int (nI (st))), (7, .int (nI (nx + 1))), (2, .int (nI (Lf - 0))), (9, .int (0)), (11, .int (0)), (10, .int (0)), (0, .ref (r 0)), (1, .int (kv)), (3, .int (nI (fi))), (5, .int (nI (e1))), (6, .int (nI (st)))]) hx hb dM_find_326 hl (by decide) rfl (fun ls hl => ?_)
        refine lv_goto (tgt := 176) hx hb dM_find_328 (by decide) ?_
        exact kN (by rw [hF]; exact c_272) _ H locs ls (by rw [hF]; exact (lv_sub hl [2, 1, 0, 3, 6, 7, 8, 9, 10] rfl)) hP hD hS
      · refine lv_aload_n hx hb dM_find_227 rfl (lv_at hl 4 rfl) ?_
        refine lv_iload hx hb dM_find_228 (lv_at hl 1 rfl) ?_
        refine lv_iload hx hb dM_find_230 (lv_at hl 2 rfl) ?_
        refine lv_iload hx hb dM_find_232 (lv_at hl 7 rfl) ?_
        refine lv_iload_n hx hb dM_find_234 rfl (lv_at hl 6 rfl) ?_
        refine vp_callSi (W.runV (As := [.int (nI (nx)), .int (nI (st + 1)), .int (nI (e1)), .int (nI (fi))]) (rest := []) ⟨hx, hb, hml, hown, hbw⟩ (tM_fits1 l dC dI r cI cZ cG (va_up b 7 (y)) (g) (nx) (st + 1) (e1) (fi) (by omega) (by omega) (by omega) (by omega)) (cwV 4 hbw (bw_V km_M_70 ki_yM_fits ksel_yM_fits ki_EventPatternsModel kcM_fits) rfl rfl rfl (by decide +kernel) ⟨Nat.le_of_ble_eq_true rfl, Nat.le_of_ble_eq_true rfl⟩) ⟨fun a U g mk q => by obtain ⟨q0, qP, qK⟩ := q; exact ⟨q0, qP, va_K.moved (u := U) (U := U.calling g mk a) (Vm.Alike.refl U.vm) qK⟩, va_recv hK hP (ci := 1) (q0 := 0) rfl rfl, fun U hU hW => ⟨rfl, by rw [hU]; exact hP, va_K.moved hW.alike hK⟩⟩ rfl rfl hl.1 rfl (lv_room (Nat.le_of_ble_eq_true rfl)) dM_find_235 ⟨hcs.1, hcs.2⟩) (fun r_235 hq => ?_)
        have hq : r_235 = bI (mFit1 b g (nx) (st + 1) (e1) (fi)) := hq
        subst hq
        refine nr_ifb_eq (tgt := 245) hx hb (b := (mFit1 b g (nx) (st + 1) (e1) (fi))) dM_find_238 (by decide) (fun c_238 => ?_) (fun c_238 => ?_)
        · refine lv_iconst (v := 0) hx hb dM_find_245 (by decide) ?_
          refine lv_istore (lv' := [(10, .int (0)), (2, .int (nI (Lf))), (7, .int (nI (nx))), (8, .int (nI (st + 1))), (9, .int (0)), (0, .ref (r 0)), (1, .int (kv)), (3, .int (nI (fi))), (5, .int (nI (e1))), (6, .int (nI (st)))]) hx hb dM_find_246 hl (by decide) rfl (fun ls hl => ?_)
          refine lv_iload hx hb dM_find_248 (lv_at hl 0 rfl) ?_
          refine lv_if_eq (tgt := 266) hx hb dM_find_250 (by decide) (fun _ => ?_) (fun c9 => absurd c9 (by decide))
          refine lv_iconst (v := 0) hx hb dM_find_266 (by decide) ?_
          refine lv_istore (lv' := [(11, .int (0)), (10, .int (0)), (2, .int (nI (Lf))), (7, .int (nI (nx))), (8, .int (nI (st + 1))), (9, .int (0)), (0, .ref (r 0)), (1, .int (kv)), (3, .int (nI (fi))), (5, .int (nI (e1))), (6, .int (nI (st)))]) hx hb dM_find_267 hl (by decide) rfl (fun ls hl => ?_)
          have hB : (decide (st + 1 < ms) && ((decide (g 2 = 1) || decide (nx = e1 + 1)) && mFit1 b g nx (st + 1) e1 fi)) = false := by first | exact (by rw [decide_eq_false (show ¬ st + 1 < ms by omega)]; rfl) | exact (by rw [decide_eq_false c_215, decide_eq_false c_224]; cases decide (st + 1 < ms) <;> rfl) | exact (by rw [c_238]; cases decide (st + 1 < ms) <;> cases (decide (g 2 = 1) || decide (nx = e1 + 1)) <;> rfl)
          have hF : mF2 b g ev ms fi e1 st nx = 0 := by unfold mF2; rw [hB]; rfl
          refine lv_iload_n hx hb dM_find_269 rfl (lv_at hl 2 rfl) ?_
          refine lv_iload hx hb dM_find_270 (lv_at hl 0 rfl) ?_
          refine nr_icmp_ge (tgt := 279) hx hb (a1 := Lf) (b1 := 0) (by omega) (by omega) dM_find_272 (by decide) (fun c_272 => ?_) (fun c_272 => absurd c_272 (by omega))
          refine lv_iconst (v := 0) hx hb dM_find_279 (by decide) ?_
          refine lv_istore (lv' := [(9, .int (0)), (11, .int (0)), (10, .int (0)), (2, .int (nI (Lf))), (7, .int (nI (nx))), (8, .int (nI (st + 1))), (0, .ref (r 0)), (1, .int (kv)), (3, .int (nI (fi))), (5, .int (nI (e1))), (6, .int (nI (st)))]) hx hb dM_find_280 hl (by decide) rfl (fun ls hl => ?_)
          refine lv_iload hx hb dM_find_282 (lv_at hl 0 rfl) ?_
          refine lv_if_ne (tgt := 328) hx hb dM_find_284 (by decide) (fun c9 => absurd c9 (by decide)) (fun _ => ?_)
          refine lv_iload_n hx hb dM_find_287 rfl (lv_at hl 3 rfl) ?_
          refine lv_iload hx hb dM_find_288 (lv_at hl 1 rfl) ?_
          refine nr_isub hx hb (a1 := Lf) (b1 := 0) (by omega) dM_find_290 ?_
          refine lv_istore_n (lv' := [(2, .int (nI (Lf - 0))), (9, .int (0)), (11, .int (0)), (10, .int (0)), (7, .int (nI (nx))), (8, .int (nI (st + 1))), (0, .ref (r 0)), (1, .int (kv)), (3, .int (nI (fi))), (5, .int (nI (e1))), (6, .int (nI (st)))]) hx hb dM_find_291 rfl hl (by decide) rfl (fun ls hl => ?_)
          refine lv_iload hx hb dM_find_292 (lv_at hl 5 rfl) ?_
          refine lv_iload hx hb dM_find_294 (lv_at hl 10 rfl) ?_
          refine nr_icmp_le (tgt := 306) hx hb (a1 := st + 1) (b1 := st) (by omega) (by omega) dM_find_296 (by decide) (fun c9 => absurd c9 (by omega)) (fun _ => ?_)
          refine lv_iload hx hb dM_find_299 (lv_at hl 4 rfl) ?_
          refine lv_iconst (v := 1) hx hb dM_find_301 (by decide) ?_
          refine nr_iadd hx hb (a1 := nx) (b1 := 1) dM_find_302 ?_
          refine lv_goto (tgt := 308) hx hb dM_find_303 (by decide) ?_
          refine lv_istore (lv' := [(7, .int (nI (nx + 1))), (2, .int (nI (Lf - 0))), (9, .int (0)), (11, .int (0)), (10, .int (0)), (8, .int (nI (st + 1))), (0, .ref (r 0)), (1, .int (kv)), (3, .int (nI (fi))), (5, .int (nI (e1))), (6, .int (nI (st)))]) hx hb dM_find_308 hl (by decide) rfl (fun ls hl => ?_)
          refine lv_iload hx hb dM_find_310 (lv_at hl 5 rfl) ?_
          refine lv_iload hx hb dM_find_312 (lv_at hl 10 rfl) ?_
          refine nr_icmp_le (tgt := 322) hx hb (a1 := st + 1) (b1 := st) (by omega) (by omega) dM_find_314 (by decide) (fun c9 => absurd c9 (by omega)) (fun _ => ?_)
          refine lv_iload hx hb dM_find_317 (lv_at hl 10 rfl) ?_
          refine lv_goto (tgt := 326) hx hb dM_find_319 (by decide) ?_
          refine lv_istore (lv' := [(8, .int (nI (st))), (7, .int (nI (nx + 1))), (2, .int (nI (Lf - 0))), (9, .int (0)), (11, .int (0)), (10, .int (0)), (0, .ref (r 0)), (1, .int (kv)), (3, .int (nI (fi))), (5, .int (nI (e1))), (6, .int (nI (st)))]) hx hb dM_find_326 hl (by decide) rfl (fun ls hl => ?_)
          refine lv_goto (tgt := 176) hx hb dM_find_328 (by decide) ?_
          exact kN (by rw [hF]; exact c_272) _ H locs ls (by rw [hF]; exact (lv_sub hl [2, 1, 0, 3, 6, 7, 8, 9, 10] rfl)) hP hD hS
        · refine lv_iconst (v := 1) hx hb dM_find_241 (by decide) ?_
          refine lv_goto (tgt := 246) hx hb dM_find_242 (by decide) ?_
          refine lv_istore (lv' := [(10, .int (1)), (2, .int (nI (Lf))), (7, .int (nI (nx))), (8, .int (nI (st + 1))), (9, .int (0)), (0, .ref (r 0)), (1, .int (kv)), (3, .int (nI (fi))), (5, .int (nI (e1))), (6, .int (nI (st)))]) hx hb dM_find_246 hl (by decide) rfl (fun ls hl => ?_)
          refine lv_iload hx hb dM_find_248 (lv_at hl 0 rfl) ?_
          refine lv_if_eq (tgt := 266) hx hb dM_find_250 (by decide) (fun c9 => absurd c9 (by decide)) (fun _ => ?_)
          refine lv_aload_n hx hb dM_find_253 rfl (lv_at hl 5 rfl) ?_
          refine lv_iload_n hx hb dM_find_254 rfl (lv_at hl 7 rfl) ?_
          refine lv_iload hx hb dM_find_255 (lv_at hl 2 rfl) ?_
          refine lv_iload hx hb dM_find_257 (lv_at hl 3 rfl) ?_
          refine lv_iconst (v := 0) hx hb dM_find_259 (by decide) ?_
          have hFc := va_free (wc := mw r cI cZ (va_up b 7 (y)) (g)) hD hS hA (List.range 11) rfl
          refine va_calli (va_runV (As := [.int (nI (fi)), .int (nI (nx)), .int (nI (st + 1)), .int (0)]) (rest := []) ⟨hx, hb, hml, hown, hbw⟩ (tM_waysFrom l dC dI r cI cZ cG (va_up b 7 (y)) (g) H.size ev ms (fi) (nx) (st + 1) false hev hg1 h0 hm hg4 (by omega) (by omega) (by omega) (by omega)) (cwV 4 hbw (bw_V km_M_74 ki_yM_waysFrom ksel_yM_waysFrom ki_EventPatternsModel kcM_waysFrom) rfl rfl rfl (by decide +kernel) ⟨Nat.le_of_ble_eq_true rfl, Nat.le_of_ble_eq_true rfl⟩) ⟨fun a U g mk q => by obtain ⟨q0, q1, qP, qK, qD⟩ := q; exact ⟨q0, q1, qP, va_K.moved (u := U) (U := U.calling g mk a) (Vm.Alike.refl U.vm) qK, qD⟩, va_recv hK hP (ci := 1) (q0 := 0) rfl rfl, fun U hU hW => ⟨rfl, by rw [hU], by rw [hU]; exact hP, va_K.moved hW.alike hK, hD.weaken (fun _ _ _ _ => trivial)⟩⟩ rfl rfl hl.1 rfl (lv_room (Nat.le_of_ble_eq_true rfl)) dM_find_260 ⟨hcs.1, hcs.2⟩) hS (fun q _ h => hFc q h) hFc (fun r_260 u t H1 locs ht hvm hq hB hz1 hk1 hS => ?_)
          obtain ⟨yz, y6, hyz, hq1, hq⟩ := hq
          rw [mWays hm (by omega) (by omega) (by omega) hyz, gW_c up7 rfl rfl] at hq1
          subst hq1
          obtain rfl := hq
          obtain ⟨hP1, hK1, hD1⟩ := hB
          rw [ht] at hP1
          have hP : va_P (dC, dI) cls2 (mw r cI cZ (va_up b 7 (y6)) (g)) H1 := hP1
          have hD : va_D A (mw r cI cZ (va_up b 7 (y6)) (g)) := hD1.weaken (fun _ _ _ h => hFc _ h)
          generalize H1 = H at hP hS ⊢
          refine lv_goto (tgt := 267) hx hb dM_find_263 (by decide) ?_
          refine lv_istore (lv' := [(11, .int (nI (gW b g ev ms (fi) false ((nx) - (ev - 16)) (st + 1)))), (10, .int (1)), (2, .int (nI (Lf))), (7, .int (nI (nx))), (8, .int (nI (st + 1))), (9, .int (0)), (0, .ref (r 0)), (1, .int (kv)), (3, .int (nI (fi))), (5, .int (nI (e1))), (6, .int (nI (st)))]) hx hb dM_find_267 hl (by decide) rfl (fun ls hl => ?_)
          have hB : (decide (st + 1 < ms) && ((decide (g 2 = 1) || decide (nx = e1 + 1)) && mFit1 b g nx (st + 1) e1 fi)) = true := by
            rw [decide_eq_true c_194, c_238]
            first | (rw [decide_eq_true c_215]; rfl) | (rw [decide_eq_true c_224, Bool.or_true]; rfl)
          have hF : mF2 b g ev ms fi e1 st nx = gW b g ev ms (fi) false ((nx) - (ev - 16)) (st + 1) := by unfold mF2; rw [hB]; rfl
          have hgw : gW b g ev ms (fi) false ((nx) - (ev - 16)) (st + 1) ≤ 14348907 := gW_le b g ev ms fi false (by omega)
          refine lv_iload_n hx hb dM_find_269 rfl (lv_at hl 2 rfl) ?_
          refine lv_iload hx hb dM_find_270 (lv_at hl 0 rfl) ?_
          refine nr_icmp_ge (tgt := 279) hx hb (a1 := Lf) (b1 := gW b g ev ms (fi) false ((nx) - (ev - 16)) (st + 1)) (by omega) (by omega) dM_find_272 (by decide) (fun c_272 => ?_) (fun c_272 => ?_)
          · refine lv_iconst (v := 0) hx hb dM_find_279 (by decide) ?_
            refine lv_istore (lv' := [(9, .int (0)), (11, .int (nI (gW b g ev ms (fi) false ((nx) - (ev - 16)) (st + 1)))), (10, .int (1)), (2, .int (nI (Lf))), (7, .int (nI (nx))), (8, .int (nI (st + 1))), (0, .ref (r 0)), (1, .int (kv)), (3, .int (nI (fi))), (5, .int (nI (e1))), (6, .int (nI (st)))]) hx hb dM_find_280 hl (by decide) rfl (fun ls hl => ?_)
            refine lv_iload hx hb dM_find_282 (lv_at hl 0 rfl) ?_
            refine lv_if_ne (tgt := 328) hx hb dM_find_284 (by decide) (fun c9 => absurd c9 (by decide)) (fun _ => ?_)
            refine lv_iload_n hx hb dM_find_287 rfl (lv_at hl 3 rfl) ?_
            refine lv_iload hx hb dM_find_288 (lv_at hl 1 rfl) ?_
            refine nr_isub hx hb (a1 := Lf) (b1 := gW b g ev ms (fi) false ((nx) - (ev - 16)) (st + 1)) (by omega) dM_find_290 ?_
            refine lv_istore_n (lv' := [(2, .int (nI (Lf - (gW b g ev ms (fi) false ((nx) - (ev - 16)) (st + 1))))), (9, .int (0)), (11, .int (nI (gW b g ev ms (fi) false ((nx) - (ev - 16)) (st + 1)))), (10, .int (1)), (7, .int (nI (nx))), (8, .int (nI (st + 1))), (0, .ref (r 0)), (1, .int (kv)), (3, .int (nI (fi))), (5, .int (nI (e1))), (6, .int (nI (st)))]) hx hb dM_find_291 rfl hl (by decide) rfl (fun ls hl => ?_)
            refine lv_iload hx hb dM_find_292 (lv_at hl 5 rfl) ?_
            refine lv_iload hx hb dM_find_294 (lv_at hl 10 rfl) ?_
            refine nr_icmp_le (tgt := 306) hx hb (a1 := st + 1) (b1 := st) (by omega) (by omega) dM_find_296 (by decide) (fun c9 => absurd c9 (by omega)) (fun _ => ?_)
            refine lv_iload hx hb dM_find_299 (lv_at hl 4 rfl) ?_
            refine lv_iconst (v := 1) hx hb dM_find_301 (by decide) ?_
            refine nr_iadd hx hb (a1 := nx) (b1 := 1) dM_find_302 ?_
            refine lv_goto (tgt := 308) hx hb dM_find_303 (by decide) ?_
            refine lv_istore (lv' := [(7, .int (nI (nx + 1))), (2, .int (nI (Lf - (gW b g ev ms (fi) false ((nx) - (ev - 16)) (st + 1))))), (9, .int (0)), (11, .int (nI (gW b g ev ms (fi) false ((nx) - (ev - 16)) (st + 1)))), (10, .int (1)), (8, .int (nI (st + 1))), (0, .ref (r 0)), (1, .int (kv)), (3, .int (nI (fi))), (5, .int (nI (e1))), (6, .int (nI (st)))]) hx hb dM_find_308 hl (by decide) rfl (fun ls hl => ?_)
            refine lv_iload hx hb dM_find_310 (lv_at hl 5 rfl) ?_
            refine lv_iload hx hb dM_find_312 (lv_at hl 10 rfl) ?_
            refine nr_icmp_le (tgt := 322) hx hb (a1 := st + 1) (b1 := st) (by omega) (by omega) dM_find_314 (by decide) (fun c9 => absurd c9 (by omega)) (fun _ => ?_)
            refine lv_iload hx hb dM_find_317 (lv_at hl 10 rfl) ?_
            refine lv_goto (tgt := 326) hx hb dM_find_319 (by decide) ?_
            refine lv_istore (lv' := [(8, .int (nI (st))), (7, .int (nI (nx + 1))), (2, .int (nI (Lf - (gW b g ev ms (fi) false ((nx) - (ev - 16)) (st + 1))))), (9, .int (0)), (11, .int (nI (gW b g ev ms (fi) false ((nx) - (ev - 16)) (st + 1)))), (10, .int (1)), (0, .ref (r 0)), (1, .int (kv)), (3, .int (nI (fi))), (5, .int (nI (e1))), (6, .int (nI (st)))]) hx hb dM_find_326 hl (by decide) rfl (fun ls hl => ?_)
            refine lv_goto (tgt := 176) hx hb dM_find_328 (by decide) ?_
            exact kN (by rw [hF]; exact c_272) _ H locs ls (by rw [hF]; exact (lv_sub hl [2, 1, 0, 3, 6, 7, 8, 9, 10] rfl)) hP hD hS
          · refine lv_iconst (v := 1) hx hb dM_find_275 (by decide) ?_
            refine lv_goto (tgt := 280) hx hb dM_find_276 (by decide) ?_
            refine lv_istore (lv' := [(9, .int (1)), (11, .int (nI (gW b g ev ms (fi) false ((nx) - (ev - 16)) (st + 1)))), (10, .int (1)), (2, .int (nI (Lf))), (7, .int (nI (nx))), (8, .int (nI (st + 1))), (0, .ref (r 0)), (1, .int (kv)), (3, .int (nI (fi))), (5, .int (nI (e1))), (6, .int (nI (st)))]) hx hb dM_find_280 hl (by decide) rfl (fun ls hl => ?_)
            refine lv_iload hx hb dM_find_282 (lv_at hl 0 rfl) ?_
            refine lv_if_ne (tgt := 328) hx hb dM_find_284 (by decide) (fun _ => ?_) (fun c9 => absurd c9 (by decide))
            refine lv_goto (tgt := 176) hx hb dM_find_328 (by decide) ?_
            exact kC (by rw [hF]; exact c_272) _ H locs ls (lv_sub hl [3, 4, 5, 0, 6, 7, 8, 9, 10] rfl) hP hD hS
