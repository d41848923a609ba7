/-! THE CLASS: how a match may go on -/
def xOnL (a : Nat → Nat → Int32) (f : Nat → Int32) (w : Nat → Nat → Int32) (n ms fi pl st : Nat) : Nat → Nat → Int32 → Int32
  | 0, _, acc => acc
  | k + 1, nx, acc => if nx < n ∧ xMay a f fi pl nx = true then xOnL a f w n ms fi pl st k (nx + 1) ((acc + xSame a w fi pl st nx) + xNext a w ms fi pl st nx) else acc
theorem xOnL_out {a : Nat → Nat → Int32} {f : Nat → Int32} {w : Nat → Nat → Int32} {n ms fi pl st k nx : Nat} {acc : Int32} (h : ¬ (nx < n ∧ xMay a f fi pl nx = true)) : xOnL a f w n ms fi pl st (k + 1) nx acc = acc := by
  rw [xOnL, if_neg h]
theorem xOnL_in {a : Nat → Nat → Int32} {f : Nat → Int32} {w : Nat → Nat → Int32} {n ms fi pl st k nx : Nat} {acc : Int32} (hk : 1 ≤ k) (h1 : nx < n) (h2 : xMay a f fi pl nx = true) : xOnL a f w n ms fi pl st (k + 1) nx acc = xOnL a f w n ms fi pl st (k - 1 + 1) (nx + 1) ((acc + xSame a w fi pl st nx) + xNext a w ms fi pl st nx) := by
  rw [xOnL, if_pos ⟨h1, h2⟩, show k - 1 + 1 = k by omega]
def xOn (a : Nat → Nat → Int32) (f : Nat → Int32) (w : Nat → Nat → Int32) (n ms fi pl st : Nat) (lo : Int32) : Int32 := xOnL a f w n ms fi pl st (n + 1) (pl + 1) (bI (decide (st + 1 = ms) && !decide (nI pl < lo)))
set_option maxHeartbeats 4000000 in
set_option maxRecDepth 100000 in
/-- waysBySameStep(first, place, step, next) -/
theorem tX_waysBySameStep (l : Launch) (dC : Nat → ClassId) (dI : Nat → Nat → Nat) (q : Nat → Nat) (cI cZ cG : ClassId) (a : Nat → Nat → Int32) (f : Nat → Int32) (w : Nat → Nat → Int32) (fi pl st nx : Nat) (h1 : fi < 16) (h2 : pl < 16) (h3 : st < 5) (h4 : nx < 16) : Met l yX_waysBySameStep wX_waysBySameStep ({ frames := 1, cells := 0, slots := 0, locals := 25 }) (va_Pc [.ref (q 0), .int (nI (fi)), .int (nI (pl)), .int (nI (st)), .int (nI (nx))] (fun U => va_P (dC, dI) cls2 (xw q cI cZ cG a f w) U.heap ∧ va_K (dC, dI) cls2 (xt cI cZ cG) U)) (vp_Si (fun r0 => r0 = xSame a w fi pl st nx)) 0 0 (fun _ => False) := by
  refine Met.ofW (cc := cX_waysBySameStep) (maxL := 5) (ret := (some .int)) (by decide) rfl ?_
  intro p e s m args below meth c s₁ B hml hv
  obtain ⟨rfl, hP, hK⟩ := hv
  have hx := B.exec
  have hb := B.bytes
  have hr := B.returns
  have hbw : ∀ w ∈ bw, w.before _ s = true := fun w h => atoms_spec (ws := wX_waysBySameStep) B.pre w (List.mem_cons_of_mem _ h)
  have hown : s.vm.findClass "EventPatterns" = some m.cls := findClass_of_methodNamed B.named
  have hlocks := B.notSynchronized
  have hl := lv_entry ([.ref (q 0), .int (nI (fi)), .int (nI (pl)), .int (nI (st)), .int (nI (nx))]) (n := 5) (Nat.le_of_ble_eq_true rfl)
  rw [lg_entry_eq]
  generalize (lg_sl ([.ref (q 0), .int (nI (fi)), .int (nI (pl)), .int (nI (st)), .int (nI (nx))]) ++ List.replicate (5 - (lg_sl ([.ref (q 0), .int (nI (fi)), .int (nI (pl)), .int (nI (st)), .int (nI (nx))])).length) Slot.unset).toArray = ls at hl ⊢
  have hl : lv_has ls 5 [(0, .ref (q 0)), (1, .int (nI (fi))), (2, .int (nI (pl))), (3, .int (nI (st))), (4, .int (nI (nx)))] := hl
  refine lv_aload_n hx hb dX_waysBySameStep_0 rfl (lv_at hl 0 rfl) ?_
  refine va_get (D := (dC, dI)) (ci := 0) (v := .ref (q 7)) (C := "EventPatterns") (T := TX) (N := 16) hx hb hbw inX hown hK hP 0 rfl rfl 8 (by decide) (hbw _ kf_X_28) (fun _ h9 => h9) rfl dX_waysBySameStep_1 ?_
  refine lv_iload_n hx hb dX_waysBySameStep_4 rfl (lv_at hl 3 rfl) ?_
  refine nr_zald hx hb hK hP 7 1 rfl rfl (j := st) (by omega) (by decide) dX_waysBySameStep_5 ?_
  refine lv_if_eq (tgt := 21) hx hb dX_waysBySameStep_6 (by decide) (fun c_6 => ?_) (fun c_6 => ?_)
  · refine lv_iconst (v := 0) hx hb dX_waysBySameStep_21 (by decide) ?_
    exact W.iret (v := 0) hx hb hr (fun t ht hW => ⟨0, rfl, by first | (simp [xSame, *]; done) | (subst_vars; simp [xSame, *]; done) | (subst_vars; simp_all [xSame]; done), ht⟩) (fun q h => by cases h) dX_waysBySameStep_22
  · refine lv_aload_n hx hb dX_waysBySameStep_9 rfl (lv_at hl 0 rfl) ?_
    refine lv_iload hx hb dX_waysBySameStep_10 (lv_at hl 4 rfl) ?_
    refine lv_iload_n hx hb dX_waysBySameStep_12 rfl (lv_at hl 3 rfl) ?_
    refine lv_iload_n hx hb dX_waysBySameStep_13 rfl (lv_at hl 2 rfl) ?_
    refine lv_iload_n hx hb dX_waysBySameStep_14 rfl (lv_at hl 1 rfl) ?_
    refine vp_callSi (W.runV (As := [.int (nI (nx)), .int (nI (st)), .int (nI (pl)), .int (nI (fi))]) (rest := []) ⟨hx, hb, hml, hown, hbw⟩ (tX_fits l dC dI q cI cZ cG a f w (nx) (st) (pl) (fi) (by omega) (by omega) (by omega) (by omega)) (cwV 4 hbw (bw_V km_X_127 ki_yX_fits ksel_yX_fits ki_EventPatterns kcX_fits) rfl rfl rfl (by decide +kernel) ⟨Nat.le_of_ble_eq_true rfl, Nat.le_of_ble_eq_true rfl⟩) ⟨fun a U g mk q => by obtain ⟨q0, qP, qK⟩ := q; exact ⟨q0, qP, va_K.moved (u := U) (U := U.calling g mk a) (Vm.Alike.refl U.vm) qK⟩, va_recv hK hP (ci := 0) (q0 := 0) rfl rfl, fun U hU hW => ⟨rfl, by rw [hU]; exact hP, va_K.moved hW.alike hK⟩⟩ rfl rfl hl.1 rfl (lv_room (Nat.le_of_ble_eq_true rfl)) dX_waysBySameStep_15 ⟨Nat.le_of_ble_eq_true rfl, Nat.le_of_ble_eq_true rfl⟩) (fun r_15 hq => ?_)
    subst hq
    refine nr_ifb_ne (tgt := 23) hx hb (b := (xFit a (nx) (st) (pl) (fi))) dX_waysBySameStep_18 (by decide) (fun c_18 => ?_) (fun c_18 => ?_)
    · refine lv_aload_n hx hb dX_waysBySameStep_23 rfl (lv_at hl 0 rfl) ?_
      refine va_get (D := (dC, dI)) (ci := 0) (v := .ref (q 8)) (C := "EventPatterns") (T := TX) (N := 16) hx hb hbw inX hown hK hP 0 rfl rfl 12 (by decide) (hbw _ kf_X_34) (fun _ h9 => h9) rfl dX_waysBySameStep_24 ?_
      refine lv_iload hx hb dX_waysBySameStep_27 (lv_at hl 4 rfl) ?_
      refine nr_aald hx hb hK hP 8 2 rfl rfl (j := nx) (by omega) (by decide) dX_waysBySameStep_29 ?_
      refine W.eq (g2 := F0 m 30 ls [.ref (q (11 + (nx)))]) rfl ?_
      refine lv_iload_n hx hb dX_waysBySameStep_30 rfl (lv_at hl 3 rfl) ?_
      refine nr_iald hx hb hK hP (11 + (nx)) 0 (xw_row q cI cZ cG _ _ _ (by omega)) rfl (j := st) (by omega) (by decide) dX_waysBySameStep_31 ?_
      exact W.iret (v := (w (nx)) (st)) hx hb hr (fun t ht hW => ⟨(w (nx)) (st), rfl, by first | (simp [xSame, *]; done) | (subst_vars; simp [xSame, *]; done) | (subst_vars; simp_all [xSame]; done), ht⟩) (fun q h => by cases h) dX_waysBySameStep_32
    · refine lv_iconst (v := 0) hx hb dX_waysBySameStep_21 (by decide) ?_
      exact W.iret (v := 0) hx hb hr (fun t ht hW => ⟨0, rfl, by first | (simp [xSame, *]; done) | (subst_vars; simp [xSame, *]; done) | (subst_vars; simp_all [xSame]; done), ht⟩) (fun q h => by cases h) dX_waysBySameStep_22
set_option maxHeartbeats 4000000 in
set_option maxRecDepth 100000 in
/-- waysByNextStep(first, place, step, next) -/
theorem tX_waysByNextStep (l : Launch) (dC : Nat → ClassId) (dI : Nat → Nat → Nat) (q : Nat → Nat) (cI cZ cG : ClassId) (a : Nat → Nat → Int32) (f : Nat → Int32) (w : Nat → Nat → Int32) (ms fi pl st nx : Nat) (h0 : 1 ≤ ms) (hm : ms ≤ 5) (hf4 : f 4 = nI ms) (h1 : fi < 16) (h2 : pl < 16) (h3 : st < ms) (h4 : nx < 16) : Met l yX_waysByNextStep wX_waysByNextStep ({ frames := 1, cells := 0, slots := 0, locals := 25 }) (va_Pc [.ref (q 0), .int (nI (fi)), .int (nI (pl)), .int (nI (st)), .int (nI (nx))] (fun U => va_P (dC, dI) cls2 (xw q cI cZ cG a f w) U.heap ∧ va_K (dC, dI) cls2 (xt cI cZ cG) U)) (vp_Si (fun r0 => r0 = xNext a w ms fi pl st nx)) 0 0 (fun _ => False) := by
  refine Met.ofW (cc := cX_waysByNextStep) (maxL := 5) (ret := (some .int)) (by decide) rfl ?_
  intro p e s m args below meth c s₁ B hml hv
  obtain ⟨rfl, hP, hK⟩ := hv
  have hx := B.exec
  have hb := B.bytes
  have hr := B.returns
  have hbw : ∀ w ∈ bw, w.before _ s = true := fun w h => atoms_spec (ws := wX_waysByNextStep) B.pre w (List.mem_cons_of_mem _ h)
  have hown : s.vm.findClass "EventPatterns" = some m.cls := findClass_of_methodNamed B.named
  have hlocks := B.notSynchronized
  have hl := lv_entry ([.ref (q 0), .int (nI (fi)), .int (nI (pl)), .int (nI (st)), .int (nI (nx))]) (n := 5) (Nat.le_of_ble_eq_true rfl)
  rw [lg_entry_eq]
  generalize (lg_sl ([.ref (q 0), .int (nI (fi)), .int (nI (pl)), .int (nI (st)), .int (nI (nx))]) ++ List.replicate (5 - (lg_sl ([.ref (q 0), .int (nI (fi)), .int (nI (pl)), .int (nI (st)), .int (nI (nx))])).length) Slot.unset).toArray = ls at hl ⊢
  have hl : lv_has ls 5 [(0, .ref (q 0)), (1, .int (nI (fi))), (2, .int (nI (pl))), (3, .int (nI (st))), (4, .int (nI (nx)))] := hl
  refine lv_aload_n hx hb dX_waysByNextStep_0 rfl (lv_at hl 0 rfl) ?_
  refine lv_iload_n hx hb dX_waysByNextStep_1 rfl (lv_at hl 3 rfl) ?_
  refine vp_callSi (W.runV (As := [.int (nI (st))]) (rest := []) ⟨hx, hb, hml, hown, hbw⟩ (tX_isLastStep l dC dI q cI cZ cG a f w ms (st) h0 hm hf4 (by omega)) (cwV 1 hbw (bw_V km_X_135 ki_yX_isLastStep ksel_yX_isLastStep ki_EventPatterns kcX_isLastStep) rfl rfl rfl (by decide +kernel) ⟨Nat.le_of_ble_eq_true rfl, Nat.le_of_ble_eq_true rfl⟩) ⟨fun a U g mk q => by obtain ⟨q0, qP, qK⟩ := q; exact ⟨q0, qP, va_K.moved (u := U) (U := U.calling g mk a) (Vm.Alike.refl U.vm) qK⟩, va_recv hK hP (ci := 0) (q0 := 0) rfl rfl, fun U hU hW => ⟨rfl, by rw [hU]; exact hP, va_K.moved hW.alike hK⟩⟩ rfl rfl hl.1 rfl (lv_room (Nat.le_of_ble_eq_true rfl)) dX_waysByNextStep_2 ⟨Nat.le_of_ble_eq_true rfl, Nat.le_of_ble_eq_true rfl⟩) (fun r_2 hq => ?_)
  subst hq
  refine nr_ifb_ne (tgt := 22) hx hb (b := (decide ((st) + 1 = ms))) dX_waysByNextStep_5 (by decide) (fun c_5 => ?_) (fun c_5 => ?_)
  · refine lv_iconst (v := 0) hx hb dX_waysByNextStep_22 (by decide) ?_
    exact W.iret (v := 0) hx hb hr (fun t ht hW => ⟨0, rfl, by first | (simp [xNext, *]; done) | (subst_vars; simp [xNext, *]; done) | (subst_vars; simp_all [xNext]; done), ht⟩) (fun q h => by cases h) dX_waysByNextStep_23
  · have hst : st + 1 < 5 := by have := of_decide_eq_false c_5; omega
    refine lv_aload_n hx hb dX_waysByNextStep_8 rfl (lv_at hl 0 rfl) ?_
    refine lv_iload hx hb dX_waysByNextStep_9 (lv_at hl 4 rfl) ?_
    refine lv_iload_n hx hb dX_waysByNextStep_11 rfl (lv_at hl 3 rfl) ?_
    refine lv_iconst (v := 1) hx hb dX_waysByNextStep_12 (by decide) ?_
    refine nr_iadd hx hb (a1 := st) (b1 := 1) dX_waysByNextStep_13 ?_
    refine lv_iload_n hx hb dX_waysByNextStep_14 rfl (lv_at hl 2 rfl) ?_
    refine lv_iload_n hx hb dX_waysByNextStep_15 rfl (lv_at hl 1 rfl) ?_
    refine vp_callSi (W.runV (As := [.int (nI (nx)), .int (nI (st + 1)), .int (nI (pl)), .int (nI (fi))]) (rest := []) ⟨hx, hb, hml, hown, hbw⟩ (tX_fits l dC dI q cI cZ cG a f w (nx) (st + 1) (pl) (fi) (by omega) (by omega) (by omega) (by omega)) (cwV 4 hbw (bw_V km_X_127 ki_yX_fits ksel_yX_fits ki_EventPatterns kcX_fits) rfl rfl rfl (by decide +kernel) ⟨Nat.le_of_ble_eq_true rfl, Nat.le_of_ble_eq_true rfl⟩) ⟨fun a U g mk q => by obtain ⟨q0, qP, qK⟩ := q; exact ⟨q0, qP, va_K.moved (u := U) (U := U.calling g mk a) (Vm.Alike.refl U.vm) qK⟩, va_recv hK hP (ci := 0) (q0 := 0) rfl rfl, fun U hU hW => ⟨rfl, by rw [hU]; exact hP, va_K.moved hW.alike hK⟩⟩ rfl rfl hl.1 rfl (lv_room (Nat.le_of_ble_eq_true rfl)) dX_waysByNextStep_16 ⟨Nat.le_of_ble_eq_true rfl, Nat.le_of_ble_eq_true rfl⟩) (fun r_16 hq => ?_)
    subst hq
    refine nr_ifb_ne (tgt := 24) hx hb (b := (xFit a (nx) (st + 1) (pl) (fi))) dX_waysByNextStep_19 (by decide) (fun c_19 => ?_) (fun c_19 => ?_)
    · refine lv_aload_n hx hb dX_waysByNextStep_24 rfl (lv_at hl 0 rfl) ?_
      refine va_get (D := (dC, dI)) (ci := 0) (v := .ref (q 8)) (C := "EventPatterns") (T := TX) (N := 16) hx hb hbw inX hown hK hP 0 rfl rfl 12 (by decide) (hbw _ kf_X_34) (fun _ h9 => h9) rfl dX_waysByNextStep_25 ?_
      refine lv_iload hx hb dX_waysByNextStep_28 (lv_at hl 4 rfl) ?_
      refine nr_aald hx hb hK hP 8 2 rfl rfl (j := nx) (by omega) (by decide) dX_waysByNextStep_30 ?_
      refine W.eq (g2 := F0 m 31 ls [.ref (q (11 + (nx)))]) rfl ?_
      refine lv_iload_n hx hb dX_waysByNextStep_31 rfl (lv_at hl 3 rfl) ?_
      refine lv_iconst (v := 1) hx hb dX_waysByNextStep_32 (by decide) ?_
      refine nr_iadd hx hb (a1 := st) (b1 := 1) dX_waysByNextStep_33 ?_
      refine nr_iald hx hb hK hP (11 + (nx)) 0 (xw_row q cI cZ cG _ _ _ (by omega)) rfl (j := st + 1) (by omega) (by decide) dX_waysByNextStep_34 ?_
      exact W.iret (v := (w (nx)) (st + 1)) hx hb hr (fun t ht hW => ⟨(w (nx)) (st + 1), rfl, by first | (simp [xNext, *]; done) | (subst_vars; simp [xNext, *]; done) | (subst_vars; simp_all [xNext]; done), ht⟩) (fun q h => by cases h) dX_waysByNextStep_35
    · refine lv_iconst (v := 0) hx hb dX_waysByNextStep_22 (by decide) ?_
      exact W.iret (v := 0) hx hb hr (fun t ht hW => ⟨0, rfl, by first | (simp [xNext, *]; done) | (subst_vars; simp [xNext, *]; done) | (subst_vars; simp_all [xNext]; done), ht⟩) (fun q h => by cases h) dX_waysByNextStep_23
set_option maxHeartbeats 4000000 in
set_option maxRecDepth 100000 in
theorem lX_waysOn (l : Launch) (dC : Nat → ClassId) (dI : Nat → Nat → Nat) (q : Nat → Nat) (cI cZ cG : ClassId) (a : Nat → Nat → Int32) (f : Nat → Int32) (w : Nat → Nat → Int32) {p : Program} {e : Env} {s : State} {m : MethodId} {args : Array Value} {below : List Frame} {meth : Method} {c : Code} {H : Heap} {locs : List Loc} {cells slots : Nat} {Q : State → Prop} (n ms fi pl st : Nat) (lo : Int32) (hn : n ≤ 16) (hf1 : f 1 = nI n) (h0 : 1 ≤ ms) (hm : ms ≤ 5) (hf4 : f 4 = nI ms) (h1 : fi < 16) (h2 : pl < 16) (h3 : st < ms)
    (hcs : cells ≤ 0 ∧ slots ≤ 0) (hx : p.tables.exec = Jvm.exec) (hb : c.code = cX_waysOn) (hml : c.maxLocals = 7) (hown : s.vm.findClass "EventPatterns" = some m.cls) (hbw : ∀ w ∈ bw, w.before args s = true) (hP : va_P (dC, dI) cls2 (xw q cI cZ cG a f w) H) (hK : va_K (dC, dI) cls2 (xt cI cZ cG) s) :
    ∀ (k nx : Nat) (acc : Int32) (ls : Array Slot), n ≤ nx + k → lv_has ls 7 [(6, .int (nI nx)), (5, .int acc), (0, .ref (q 0)), (1, .int (nI fi)), (2, .int (nI pl)), (3, .int (nI st)), (4, .int lo)] → nx ≤ 16 →
      (∀ ls : Array Slot, lv_has ls 7 [(5, .int (xOnL a f w n ms fi pl st (k + 1) nx acc)), (0, .ref (q 0)), (1, .int (nI fi)), (2, .int (nI pl)), (3, .int (nI st)), (4, .int lo)] → W p l e ({ frames := 2, cells := 0, slots := 0, locals := 49 }) s m args below meth c H locs cells slots Q (F0 m 80 ls [])) → W p l e ({ frames := 2, cells := 0, slots := 0, locals := 49 }) s m args below meth c H locs cells slots Q (F0 m 26 ls []) := by
  intro k
  induction k using Nat.strongRecOn with
  | ind k ih =>
    intro nx acc ls hk hl hnx kk
    refine lv_iload hx hb dX_waysOn_26 (lv_at hl 0 rfl) ?_
    refine lv_aload_n hx hb dX_waysOn_28 rfl (lv_at hl 2 rfl) ?_
    refine va_get (D := (dC, dI)) (ci := 0) (v := .int (nI (n))) (C := "EventPatterns") (T := TX) (N := 16) hx hb hbw inX hown hK hP 0 rfl rfl 4 (by decide) (hbw _ kf_X_47) (fun _ h9 => h9) (congrArg (fun z => some (Value.int z)) (hf1)) dX_waysOn_29 ?_
    refine nr_icmp_ge (tgt := 80) hx hb (a1 := nx) (b1 := n) (by omega) (by omega) dX_waysOn_32 (by decide) (fun c_32 => ?_) (fun c_32 => ?_)
    · refine kk ls ?_
      rw [xOnL_out (by first | omega | (rintro ⟨u1, u2⟩; first | omega | (rw [u2] at c_43; cases c_43)))]
      exact lv_sub hl [1, 2, 3, 4, 5, 6] rfl
    · refine lv_aload_n hx hb dX_waysOn_35 rfl (lv_at hl 2 rfl) ?_
      refine lv_iload_n hx hb dX_waysOn_36 rfl (lv_at hl 3 rfl) ?_
      refine lv_iload_n hx hb dX_waysOn_37 rfl (lv_at hl 4 rfl) ?_
      refine lv_iload hx hb dX_waysOn_38 (lv_at hl 0 rfl) ?_
      refine vp_callSi (W.runV (As := [.int (nI (fi)), .int (nI (pl)), .int (nI (nx))]) (rest := []) ⟨hx, hb, hml, hown, hbw⟩ (tX_mayFollow l dC dI q cI cZ cG a f w (fi) (pl) (nx) (by omega) (by omega) (by omega)) (cwV 3 hbw (bw_V km_X_138 ki_yX_mayFollow ksel_yX_mayFollow ki_EventPatterns kcX_mayFollow) rfl rfl rfl (by decide +kernel) ⟨Nat.le_of_ble_eq_true rfl, Nat.le_of_ble_eq_true rfl⟩) ⟨fun a U g mk q => by obtain ⟨q0, qP, qK⟩ := q; exact ⟨q0, qP, va_K.moved (u := U) (U := U.calling g mk a) (Vm.Alike.refl U.vm) qK⟩, va_recv hK hP (ci := 0) (q0 := 0) rfl rfl, fun U hU hW => ⟨rfl, by rw [hU]; exact hP, va_K.moved hW.alike hK⟩⟩ rfl rfl hl.1 rfl (lv_room (Nat.le_of_ble_eq_true rfl)) dX_waysOn_40 ⟨hcs.1, hcs.2⟩) (fun r_40 hq => ?_)
      subst hq
      refine nr_ifb_eq (tgt := 80) hx hb (b := (xMay a f (fi) (pl) (nx))) dX_waysOn_43 (by decide) (fun c_43 => ?_) (fun c_43 => ?_)
      · refine kk ls ?_
        rw [xOnL_out (by first | omega | (rintro ⟨u1, u2⟩; first | omega | (rw [u2] at c_43; cases c_43)))]
        exact lv_sub hl [1, 2, 3, 4, 5, 6] rfl
      · refine lv_iload hx hb dX_waysOn_46 (lv_at hl 1 rfl) ?_
        refine lv_aload_n hx hb dX_waysOn_48 rfl (lv_at hl 2 rfl) ?_
        refine lv_iload_n hx hb dX_waysOn_49 rfl (lv_at hl 3 rfl) ?_
        refine lv_iload_n hx hb dX_waysOn_50 rfl (lv_at hl 4 rfl) ?_
        refine lv_iload_n hx hb dX_waysOn_51 rfl (lv_at hl 5 rfl) ?_
        refine lv_iload hx hb dX_waysOn_52 (lv_at hl 0 rfl) ?_
        refine vp_callSi (W.runV (As := [.int (nI (fi)), .int (nI (pl)), .int (nI (st)), .int (nI (nx))]) (rest := [.int (acc)]) ⟨hx, hb, hml, hown, hbw⟩ (tX_waysBySameStep l dC dI q cI cZ cG a f w (fi) (pl) (st) (nx) (by omega) (by omega) (by omega) (by omega)) (cwV 4 hbw (bw_V km_X_142 ki_yX_waysBySameStep ksel_yX_waysBySameStep ki_EventPatterns kcX_waysBySameStep) rfl rfl rfl (by decide +kernel) ⟨Nat.le_of_ble_eq_true rfl, Nat.le_of_ble_eq_true rfl⟩) ⟨fun a U g mk q => by obtain ⟨q0, qP, qK⟩ := q; exact ⟨q0, qP, va_K.moved (u := U) (U := U.calling g mk a) (Vm.Alike.refl U.vm) qK⟩, va_recv hK hP (ci := 0) (q0 := 0) rfl rfl, fun U hU hW => ⟨rfl, by rw [hU]; exact hP, va_K.moved hW.alike hK⟩⟩ rfl rfl hl.1 rfl (lv_room (Nat.le_of_ble_eq_true rfl)) dX_waysOn_54 ⟨hcs.1, hcs.2⟩) (fun r_54 hq => ?_)
        subst hq
        refine lv_iadd hx hb dX_waysOn_57 ?_
        refine lv_istore (lv' := [(5, .int ((acc) + (xSame a w (fi) (pl) (st) (nx)))), (6, .int (nI (nx))), (0, .ref (q 0)), (1, .int (nI (fi))), (2, .int (nI (pl))), (3, .int (nI (st))), (4, .int (lo))]) hx hb dX_waysOn_58 hl (by decide) rfl (fun ls hl => ?_)
        refine lv_iload hx hb dX_waysOn_60 (lv_at hl 0 rfl) ?_
        refine lv_aload_n hx hb dX_waysOn_62 rfl (lv_at hl 2 rfl) ?_
        refine lv_iload_n hx hb dX_waysOn_63 rfl (lv_at hl 3 rfl) ?_
        refine lv_iload_n hx hb dX_waysOn_64 rfl (lv_at hl 4 rfl) ?_
        refine lv_iload_n hx hb dX_waysOn_65 rfl (lv_at hl 5 rfl) ?_
        refine lv_iload hx hb dX_waysOn_66 (lv_at hl 1 rfl) ?_
        refine vp_callSi (W.runV (As := [.int (nI (fi)), .int (nI (pl)), .int (nI (st)), .int (nI (nx))]) (rest := [.int ((acc) + (xSame a w (fi) (pl) (st) (nx)))]) ⟨hx, hb, hml, hown, hbw⟩ (tX_waysByNextStep l dC dI q cI cZ cG a f w ms (fi) (pl) (st) (nx) h0 hm hf4 (by omega) (by omega) (by omega) (by omega)) (cwV 4 hbw (bw_V km_X_145 ki_yX_waysByNextStep ksel_yX_waysByNextStep ki_EventPatterns kcX_waysByNextStep) rfl rfl rfl (by decide +kernel) ⟨Nat.le_of_ble_eq_true rfl, Nat.le_of_ble_eq_true rfl⟩) ⟨fun a U g mk q => by obtain ⟨q0, qP, qK⟩ := q; exact ⟨q0, qP, va_K.moved (u := U) (U := U.calling g mk a) (Vm.Alike.refl U.vm) qK⟩, va_recv hK hP (ci := 0) (q0 := 0) rfl rfl, fun U hU hW => ⟨rfl, by rw [hU]; exact hP, va_K.moved hW.alike hK⟩⟩ rfl rfl hl.1 rfl (lv_room (Nat.le_of_ble_eq_true rfl)) dX_waysOn_68 ⟨hcs.1, hcs.2⟩) (fun r_68 hq => ?_)
        subst hq
        refine lv_iadd hx hb dX_waysOn_71 ?_
        refine lv_istore (lv' := [(5, .int (((acc) + (xSame a w (fi) (pl) (st) (nx))) + (xNext a w ms (fi) (pl) (st) (nx)))), (6, .int (nI (nx))), (0, .ref (q 0)), (1, .int (nI (fi))), (2, .int (nI (pl))), (3, .int (nI (st))), (4, .int (lo))]) hx hb dX_waysOn_72 hl (by decide) rfl (fun ls hl => ?_)
        refine lv_iinc (v := nI (nx + 1)) (lv' := [(6, .int (nI (nx + 1))), (5, .int (((acc) + (xSame a w (fi) (pl) (st) (nx))) + (xNext a w ms (fi) (pl) (st) (nx)))), (0, .ref (q 0)), (1, .int (nI (fi))), (2, .int (nI (pl))), (3, .int (nI (st))), (4, .int (lo))]) hx hb dX_waysOn_74 hl (k := 1) rfl (nI_1 _) (by decide) rfl (fun ls hl => ?_)
        refine lv_goto (tgt := 26) hx hb dX_waysOn_77 (by decide) ?_
        exact ih (k - 1) (by omega) (nx + 1) _ ls (by omega) (lv_sub hl [0, 1, 2, 3, 4, 5, 6] rfl) (by omega) (fun ls hl => kk ls (by rw [xOnL_in (by omega) c_32 c_43]; exact hl))
set_option maxHeartbeats 4000000 in
set_option maxRecDepth 100000 in
/-- waysOn(first, place, step, lowestEnd) -/
theorem tX_waysOn (l : Launch) (dC : Nat → ClassId) (dI : Nat → Nat → Nat) (q : Nat → Nat) (cI cZ cG : ClassId) (a : Nat → Nat → Int32) (f : Nat → Int32) (w : Nat → Nat → Int32) (n ms fi pl st : Nat) (lo : Int32) (hn : n ≤ 16) (hf1 : f 1 = nI n) (h0 : 1 ≤ ms) (hm : ms ≤ 5) (hf4 : f 4 = nI ms) (h1 : fi < 16) (h2 : pl < n) (h3 : st < ms) : Met l yX_waysOn wX_waysOn ({ frames := 2, cells := 0, slots := 0, locals := 49 }) (va_Pc [.ref (q 0), .int (nI (fi)), .int (nI (pl)), .int (nI (st)), .int (lo)] (fun U => va_P (dC, dI) cls2 (xw q cI cZ cG a f w) U.heap ∧ va_K (dC, dI) cls2 (xt cI cZ cG) U)) (vp_Si (fun r0 => r0 = xOn a f w n ms fi pl st lo)) 0 0 (fun _ => False) := by
  refine Met.ofW (cc := cX_waysOn) (maxL := 7) (ret := (some .int)) (by decide) rfl ?_
  intro p e s m args below meth c s₁ B hml hv
  obtain ⟨rfl, hP, hK⟩ := hv
  have hx := B.exec
  have hb := B.bytes
  have hr := B.returns
  have hbw : ∀ w ∈ bw, w.before _ s = true := fun w h => atoms_spec (ws := wX_waysOn) B.pre w (List.mem_cons_of_mem _ h)
  have hown : s.vm.findClass "EventPatterns" = some m.cls := findClass_of_methodNamed B.named
  have hlocks := B.notSynchronized
  have hl := lv_entry ([.ref (q 0), .int (nI (fi)), .int (nI (pl)), .int (nI (st)), .int (lo)]) (n := 7) (Nat.le_of_ble_eq_true rfl)
  rw [lg_entry_eq]
  generalize (lg_sl ([.ref (q 0), .int (nI (fi)), .int (nI (pl)), .int (nI (st)), .int (lo)]) ++ List.replicate (7 - (lg_sl ([.ref (q 0), .int (nI (fi)), .int (nI (pl)), .int (nI (st)), .int (lo)])).length) Slot.unset).toArray = ls at hl ⊢
  have hl : lv_has ls 7 [(0, .ref (q 0)), (1, .int (nI (fi))), (2, .int (nI (pl))), (3, .int (nI (st))), (4, .int (lo))] := hl
  refine lv_aload_n hx hb dX_waysOn_0 rfl (lv_at hl 0 rfl) ?_
  refine lv_iload_n hx hb dX_waysOn_1 rfl (lv_at hl 3 rfl) ?_
  refine vp_callSi (W.runV (As := [.int (nI (st))]) (rest := []) ⟨hx, hb, hml, hown, hbw⟩ (tX_isLastStep l dC dI q cI cZ cG a f w ms (st) h0 hm hf4 (by omega)) (cwV 1 hbw (bw_V km_X_135 ki_yX_isLastStep ksel_yX_isLastStep ki_EventPatterns kcX_isLastStep) rfl rfl rfl (by decide +kernel) ⟨Nat.le_of_ble_eq_true rfl, Nat.le_of_ble_eq_true rfl⟩) ⟨fun a U g mk q => by obtain ⟨q0, qP, qK⟩ := q; exact ⟨q0, qP, va_K.moved (u := U) (U := U.calling g mk a) (Vm.Alike.refl U.vm) qK⟩, va_recv hK hP (ci := 0) (q0 := 0) rfl rfl, fun U hU hW => ⟨rfl, by rw [hU]; exact hP, va_K.moved hW.alike hK⟩⟩ rfl rfl hl.1 rfl (lv_room (Nat.le_of_ble_eq_true rfl)) dX_waysOn_2 ⟨Nat.le_of_ble_eq_true rfl, Nat.le_of_ble_eq_true rfl⟩) (fun r_2 hq => ?_)
  subst hq
  refine nr_ifb_eq (tgt := 18) hx hb (b := (decide ((st) + 1 = ms))) dX_waysOn_5 (by decide) (fun c_5 => ?_) (fun c_5 => ?_)
  · refine lv_iconst (v := 0) hx hb dX_waysOn_18 (by decide) ?_
    refine lv_istore (lv' := [(5, .int (0)), (0, .ref (q 0)), (1, .int (nI (fi))), (2, .int (nI (pl))), (3, .int (nI (st))), (4, .int (lo))]) hx hb dX_waysOn_19 hl (by decide) rfl (fun ls hl => ?_)
    refine lv_iload_n hx hb dX_waysOn_21 rfl (lv_at hl 3 rfl) ?_
    refine lv_iconst (v := 1) hx hb dX_waysOn_22 (by decide) ?_
    refine nr_iadd hx hb (a1 := pl) (b1 := 1) dX_waysOn_23 ?_
    refine lv_istore (lv' := [(6, .int (nI (pl + 1))), (5, .int (0)), (0, .ref (q 0)), (1, .int (nI (fi))), (2, .int (nI (pl))), (3, .int (nI (st))), (4, .int (lo))]) hx hb dX_waysOn_24 hl (by decide) rfl (fun ls hl => ?_)
    refine lX_waysOn l dC dI q cI cZ cG a f w n ms fi pl st lo hn hf1 h0 hm hf4 h1 (by omega) h3 ⟨Nat.le_refl _, Nat.le_refl _⟩ hx hb hml hown hbw hP hK n (pl + 1) (0) ls (by omega) (lv_sub hl [0, 1, 2, 3, 4, 5, 6] rfl) (by omega) (fun ls hl => ?_)
    refine lv_iload hx hb dX_waysOn_80 (lv_at hl 0 rfl) ?_
    exact W.iret (v := xOnL a f w n ms fi pl st (n + 1) (pl + 1) (0)) hx hb hr (fun t ht hW => ⟨xOnL a f w n ms fi pl st (n + 1) (pl + 1) (0), rfl, by first | (simp [xOn, bI, *]; done) | (subst_vars; simp [xOn, bI, *]; done) | (subst_vars; simp_all [xOn, bI]; done), ht⟩) (fun q h => by cases h) dX_waysOn_82
  · refine lv_iload_n hx hb dX_waysOn_8 rfl (lv_at hl 2 rfl) ?_
    refine lv_iload hx hb dX_waysOn_9 (lv_at hl 4 rfl) ?_
    refine lv_icmp_lt (tgt := 18) hx hb dX_waysOn_11 (by decide) (fun c_11 => ?_) (fun c_11 => ?_)
    · refine lv_iconst (v := 0) hx hb dX_waysOn_18 (by decide) ?_
      refine lv_istore (lv' := [(5, .int (0)), (0, .ref (q 0)), (1, .int (nI (fi))), (2, .int (nI (pl))), (3, .int (nI (st))), (4, .int (lo))]) hx hb dX_waysOn_19 hl (by decide) rfl (fun ls hl => ?_)
      refine lv_iload_n hx hb dX_waysOn_21 rfl (lv_at hl 3 rfl) ?_
      refine lv_iconst (v := 1) hx hb dX_waysOn_22 (by decide) ?_
      refine nr_iadd hx hb (a1 := pl) (b1 := 1) dX_waysOn_23 ?_
      refine lv_istore (lv' := [(6, .int (nI (pl + 1))), (5, .int (0)), (0, .ref (q 0)), (1, .int (nI (fi))), (2, .int (nI (pl))), (3, .int (nI (st))), (4, .int (lo))]) hx hb dX_waysOn_24 hl (by decide) rfl (fun ls hl => ?_)
      refine lX_waysOn l dC dI q cI cZ cG a f w n ms fi pl st lo hn hf1 h0 hm hf4 h1 (by omega) h3 ⟨Nat.le_refl _, Nat.le_refl _⟩ hx hb hml hown hbw hP hK n (pl + 1) (0) ls (by omega) (lv_sub hl [0, 1, 2, 3, 4, 5, 6] rfl) (by omega) (fun ls hl => ?_)
      refine lv_iload hx hb dX_waysOn_80 (lv_at hl 0 rfl) ?_
      exact W.iret (v := xOnL a f w n ms fi pl st (n + 1) (pl + 1) (0)) hx hb hr (fun t ht hW => ⟨xOnL a f w n ms fi pl st (n + 1) (pl + 1) (0), rfl, by first | (simp [xOn, bI, *]; done) | (subst_vars; simp [xOn, bI, *]; done) | (subst_vars; simp_all [xOn, bI]; done), ht⟩) (fun q h => by cases h) dX_waysOn_82
    · refine lv_iconst (v := 1) hx hb dX_waysOn_14 (by decide) ?_
      refine lv_goto (tgt := 19) hx hb dX_waysOn_15 (by decide) ?_
      refine lv_istore (lv' := [(5, .int (1)), (0, .ref (q 0)), (1, .int (nI (fi))), (2, .int (nI (pl))), (3, .int (nI (st))), (4, .int (lo))]) hx hb dX_waysOn_19 hl (by decide) rfl (fun ls hl => ?_)
      refine lv_iload_n hx hb dX_waysOn_21 rfl (lv_at hl 3 rfl) ?_
      refine lv_iconst (v := 1) hx hb dX_waysOn_22 (by decide) ?_
      refine nr_iadd hx hb (a1 := pl) (b1 := 1) dX_waysOn_23 ?_
      refine lv_istore (lv' := [(6, .int (nI (pl + 1))), (5, .int (1)), (0, .ref (q 0)), (1, .int (nI (fi))), (2, .int (nI (pl))), (3, .int (nI (st))), (4, .int (lo))]) hx hb dX_waysOn_24 hl (by decide) rfl (fun ls hl => ?_)
      refine lX_waysOn l dC dI q cI cZ cG a f w n ms fi pl st lo hn hf1 h0 hm hf4 h1 (by omega) h3 ⟨Nat.le_refl _, Nat.le_refl _⟩ hx hb hml hown hbw hP hK n (pl + 1) (1) ls (by omega) (lv_sub hl [0, 1, 2, 3, 4, 5, 6] rfl) (by omega) (fun ls hl => ?_)
      refine lv_iload hx hb dX_waysOn_80 (lv_at hl 0 rfl) ?_
      exact W.iret (v := xOnL a f w n ms fi pl st (n + 1) (pl + 1) (1)) hx hb hr (fun t ht hW => ⟨xOnL a f w n ms fi pl st (n + 1) (pl + 1) (1), rfl, by first | (simp [xOn, bI, *]; done) | (subst_vars; simp [xOn, bI, *]; done) | (subst_vars; simp_all [xOn, bI]; done), ht⟩) (fun q h => by cases h) dX_waysOn_82
