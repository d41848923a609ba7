/-! THE CLASS: methods that only read -/
set_option maxHeartbeats 4000000 in
set_option maxRecDepth 100000 in
/-- events() -/
theorem tX_events (l : Launch) (dC : Nat → ClassId) (dI : Nat → Nat → Nat) (q : Nat → Nat) (cI cZ cG : ClassId) (a : Nat → Nat → Int32) (f : Nat → Int32) (w : Nat → Nat → Int32)   : Met l yX_events wX_events ({ frames := 0, cells := 0, slots := 0, locals := 0 }) (va_Pc [.ref (q 0)] (fun U => va_P (dC, dI) cls2 (xw q cI cZ cG a f w) U.heap ∧ va_K (dC, dI) cls2 (xt cI cZ cG) U)) (vp_Si (fun r0 => r0 = f 0)) 0 0 (fun _ => False) := by
  refine Met.ofW (cc := cX_events) (maxL := 1) (ret := (some .int)) (by decide) rfl ?_
  intro p e s m args below meth c s₁ B hml hv
  obtain ⟨rfl, hP, hK⟩ := hv
  have hx := B.exec
  have hb := B.bytes
  have hr := B.returns
  have hbw : ∀ w ∈ bw, w.before _ s = true := fun w h => atoms_spec (ws := wX_events) B.pre w (List.mem_cons_of_mem _ h)
  have hown : s.vm.findClass "EventPatterns" = some m.cls := findClass_of_methodNamed B.named
  have hlocks := B.notSynchronized
  have hl := lv_entry ([.ref (q 0)]) (n := 1) (Nat.le_of_ble_eq_true rfl)
  rw [lg_entry_eq]
  generalize (lg_sl ([.ref (q 0)]) ++ List.replicate (1 - (lg_sl ([.ref (q 0)])).length) Slot.unset).toArray = ls at hl ⊢
  have hl : lv_has ls 1 [(0, .ref (q 0))] := hl
  refine lv_aload_n hx hb dX_events_0 rfl (lv_at hl 0 rfl) ?_
  refine va_get (D := (dC, dI)) (ci := 0) (v := .int (f 0)) (C := "EventPatterns") (T := TX) (N := 16) hx hb hbw inX hown hK hP 0 rfl rfl 3 (by decide) (hbw _ kf_X_43) (fun _ h9 => h9) rfl dX_events_1 ?_
  exact W.iret (v := f 0) hx hb hr (fun t ht hW => ⟨f 0, rfl, rfl, ht⟩) (fun q h => by cases h) dX_events_4
set_option maxHeartbeats 4000000 in
set_option maxRecDepth 100000 in
/-- earliestTime() -/
theorem tX_earliestTime (l : Launch) (dC : Nat → ClassId) (dI : Nat → Nat → Nat) (q : Nat → Nat) (cI cZ cG : ClassId) (a : Nat → Nat → Int32) (f : Nat → Int32) (w : Nat → Nat → Int32) (n : Nat) (hn : n ≤ 16) (hf1 : f 1 = nI n) : Met l yX_earliestTime wX_earliestTime ({ frames := 0, cells := 0, slots := 0, locals := 0 }) (va_Pc [.ref (q 0)] (fun U => va_P (dC, dI) cls2 (xw q cI cZ cG a f w) U.heap ∧ va_K (dC, dI) cls2 (xt cI cZ cG) U)) (vp_Si (fun r0 => r0 = if n = 0 then 0 else a 0 (n - 1))) 0 0 (fun _ => False) := by
  refine Met.ofW (cc := cX_earliestTime) (maxL := 1) (ret := (some .int)) (by decide) rfl ?_
  intro p e s m args below meth c s₁ B hml hv
  obtain ⟨rfl, hP, hK⟩ := hv
  have hx := B.exec
  have hb := B.bytes
  have hr := B.returns
  have hbw : ∀ w ∈ bw, w.before _ s = true := fun w h => atoms_spec (ws := wX_earliestTime) B.pre w (List.mem_cons_of_mem _ h)
  have hown : s.vm.findClass "EventPatterns" = some m.cls := findClass_of_methodNamed B.named
  have hlocks := B.notSynchronized
  have hl := lv_entry ([.ref (q 0)]) (n := 1) (Nat.le_of_ble_eq_true rfl)
  rw [lg_entry_eq]
  generalize (lg_sl ([.ref (q 0)]) ++ List.replicate (1 - (lg_sl ([.ref (q 0)])).length) Slot.unset).toArray = ls at hl ⊢
  have hl : lv_has ls 1 [(0, .ref (q 0))] := hl
  refine lv_aload_n hx hb dX_earliestTime_0 rfl (lv_at hl 0 rfl) ?_
  refine va_get (D := (dC, dI)) (ci := 0) (v := .int (nI (n))) (C := "EventPatterns") (T := TX) (N := 16) hx hb hbw inX hown hK hP 0 rfl rfl 4 (by decide) (hbw _ kf_X_47) (fun _ h9 => h9) (congrArg (fun z => some (Value.int z)) (hf1)) dX_earliestTime_1 ?_
  refine nr_if_le (tgt := 21) hx hb (a1 := n) (by omega) dX_earliestTime_4 (by decide) (fun c_4 => ?_) (fun c_4 => ?_)
  · refine lv_iconst (v := 0) hx hb dX_earliestTime_21 (by decide) ?_
    exact W.iret (v := 0) hx hb hr (fun t ht hW => ⟨0, rfl, by first | (rw [if_pos (by omega)]; done) | (rw [if_neg (by omega)]; done), ht⟩) (fun q h => by cases h) dX_earliestTime_22
  · refine lv_aload_n hx hb dX_earliestTime_7 rfl (lv_at hl 0 rfl) ?_
    refine va_get (D := (dC, dI)) (ci := 0) (v := .ref (q 1)) (C := "EventPatterns") (T := TX) (N := 16) hx hb hbw inX hown hK hP 0 rfl rfl 0 (by decide) (hbw _ kf_X_9) (fun _ h9 => h9) rfl dX_earliestTime_8 ?_
    refine lv_aload_n hx hb dX_earliestTime_11 rfl (lv_at hl 0 rfl) ?_
    refine va_get (D := (dC, dI)) (ci := 0) (v := .int (nI (n))) (C := "EventPatterns") (T := TX) (N := 16) hx hb hbw inX hown hK hP 0 rfl rfl 4 (by decide) (hbw _ kf_X_47) (fun _ h9 => h9) (congrArg (fun z => some (Value.int z)) (hf1)) dX_earliestTime_12 ?_
    refine lv_iconst (v := 1) hx hb dX_earliestTime_15 (by decide) ?_
    refine nr_isub hx hb (a1 := n) (b1 := 1) (by omega) dX_earliestTime_16 ?_
    refine nr_iald hx hb hK hP 1 0 rfl rfl (j := n - 1) (by omega) (by decide) dX_earliestTime_17 ?_
    refine lv_goto (tgt := 22) hx hb dX_earliestTime_18 (by decide) ?_
    exact W.iret (v := (a 0) (n - 1)) hx hb hr (fun t ht hW => ⟨(a 0) (n - 1), rfl, by first | (rw [if_pos (by omega)]; done) | (rw [if_neg (by omega)]; done), ht⟩) (fun q h => by cases h) dX_earliestTime_22
set_option maxHeartbeats 4000000 in
set_option maxRecDepth 100000 in
/-- isLastStep(step) -/
theorem tX_isLastStep (l : Launch) (dC : Nat → ClassId) (dI : Nat → Nat → Nat) (q : Nat → Nat) (cI cZ cG : ClassId) (a : Nat → Nat → Int32) (f : Nat → Int32) (w : Nat → Nat → Int32) (ms st : Nat) (h0 : 1 ≤ ms) (hm : ms ≤ 5) (hf4 : f 4 = nI ms) (hs : st < 5) : Met l yX_isLastStep wX_isLastStep ({ frames := 0, cells := 0, slots := 0, locals := 0 }) (va_Pc [.ref (q 0), .int (nI (st))] (fun U => va_P (dC, dI) cls2 (xw q cI cZ cG a f w) U.heap ∧ va_K (dC, dI) cls2 (xt cI cZ cG) U)) (vp_Si (fun r0 => r0 = bI (decide (st + 1 = ms)))) 0 0 (fun _ => False) := by
  refine Met.ofW (cc := cX_isLastStep) (maxL := 2) (ret := (some .boolean)) (by decide) rfl ?_
  intro p e s m args below meth c s₁ B hml hv
  obtain ⟨rfl, hP, hK⟩ := hv
  have hx := B.exec
  have hb := B.bytes
  have hr := B.returns
  have hbw : ∀ w ∈ bw, w.before _ s = true := fun w h => atoms_spec (ws := wX_isLastStep) B.pre w (List.mem_cons_of_mem _ h)
  have hown : s.vm.findClass "EventPatterns" = some m.cls := findClass_of_methodNamed B.named
  have hlocks := B.notSynchronized
  have hl := lv_entry ([.ref (q 0), .int (nI (st))]) (n := 2) (Nat.le_of_ble_eq_true rfl)
  rw [lg_entry_eq]
  generalize (lg_sl ([.ref (q 0), .int (nI (st))]) ++ List.replicate (2 - (lg_sl ([.ref (q 0), .int (nI (st))])).length) Slot.unset).toArray = ls at hl ⊢
  have hl : lv_has ls 2 [(0, .ref (q 0)), (1, .int (nI (st)))] := hl
  refine lv_iload_n hx hb dX_isLastStep_0 rfl (lv_at hl 1 rfl) ?_
  refine lv_aload_n hx hb dX_isLastStep_1 rfl (lv_at hl 0 rfl) ?_
  refine va_get (D := (dC, dI)) (ci := 0) (v := .int (nI (ms))) (C := "EventPatterns") (T := TX) (N := 16) hx hb hbw inX hown hK hP 0 rfl rfl 11 (by decide) (hbw _ kf_X_56) (fun _ h9 => h9) (congrArg (fun z => some (Value.int z)) (hf4)) dX_isLastStep_2 ?_
  refine lv_iconst (v := 1) hx hb dX_isLastStep_5 (by decide) ?_
  refine nr_isub hx hb (a1 := ms) (b1 := 1) (by omega) dX_isLastStep_6 ?_
  refine nr_icmp_ne (tgt := 14) hx hb (a1 := st) (b1 := ms - 1) (by omega) (by omega) dX_isLastStep_7 (by decide) (fun c_7 => ?_) (fun c_7 => ?_)
  · refine lv_iconst (v := 0) hx hb dX_isLastStep_14 (by decide) ?_
    exact W.zret (v := 0) hx hb hr rfl (fun t ht hW => ⟨0, rfl, by first | (rw [decide_eq_true (by omega)]; rfl) | (rw [decide_eq_false (by omega)]; rfl), ht⟩) (fun q h => by cases h) dX_isLastStep_15
  · refine lv_iconst (v := 1) hx hb dX_isLastStep_10 (by decide) ?_
    refine lv_goto (tgt := 15) hx hb dX_isLastStep_11 (by decide) ?_
    exact W.zret (v := 1) hx hb hr rfl (fun t ht hW => ⟨1, rfl, by first | (rw [decide_eq_true (by omega)]; rfl) | (rw [decide_eq_false (by omega)]; rfl), ht⟩) (fun q h => by cases h) dX_isLastStep_15
set_option maxHeartbeats 4000000 in
set_option maxRecDepth 100000 in
/-- mayFollow(first, place, next) -/
theorem tX_mayFollow (l : Launch) (dC : Nat → ClassId) (dI : Nat → Nat → Nat) (q : Nat → Nat) (cI cZ cG : ClassId) (a : Nat → Nat → Int32) (f : Nat → Int32) (w : Nat → Nat → Int32) (fi pl nx : Nat) (h1 : fi < 16) (h2 : pl < 16) (h3 : nx < 16) : Met l yX_mayFollow wX_mayFollow ({ frames := 0, cells := 0, slots := 0, locals := 0 }) (va_Pc [.ref (q 0), .int (nI (fi)), .int (nI (pl)), .int (nI (nx))] (fun U => va_P (dC, dI) cls2 (xw q cI cZ cG a f w) U.heap ∧ va_K (dC, dI) cls2 (xt cI cZ cG) U)) (vp_Si (fun r0 => r0 = bI (xMay a f fi pl nx))) 0 0 (fun _ => False) := by
  refine Met.ofW (cc := cX_mayFollow) (maxL := 4) (ret := (some .boolean)) (by decide) rfl ?_
  intro p e s m args below meth c s₁ B hml hv
  obtain ⟨rfl, hP, hK⟩ := hv
  have hx := B.exec
  have hb := B.bytes
  have hr := B.returns
  have hbw : ∀ w ∈ bw, w.before _ s = true := fun w h => atoms_spec (ws := wX_mayFollow) B.pre w (List.mem_cons_of_mem _ h)
  have hown : s.vm.findClass "EventPatterns" = some m.cls := findClass_of_methodNamed B.named
  have hlocks := B.notSynchronized
  have hl := lv_entry ([.ref (q 0), .int (nI (fi)), .int (nI (pl)), .int (nI (nx))]) (n := 4) (Nat.le_of_ble_eq_true rfl)
  rw [lg_entry_eq]
  generalize (lg_sl ([.ref (q 0), .int (nI (fi)), .int (nI (pl)), .int (nI (nx))]) ++ List.replicate (4 - (lg_sl ([.ref (q 0), .int (nI (fi)), .int (nI (pl)), .int (nI (nx))])).length) Slot.unset).toArray = ls at hl ⊢
  have hl : lv_has ls 4 [(0, .ref (q 0)), (1, .int (nI (fi))), (2, .int (nI (pl))), (3, .int (nI (nx)))] := hl
  refine lv_aload_n hx hb dX_mayFollow_0 rfl (lv_at hl 0 rfl) ?_
  refine va_get (D := (dC, dI)) (ci := 0) (v := .int (f 2)) (C := "EventPatterns") (T := TX) (N := 16) hx hb hbw inX hown hK hP 0 rfl rfl 9 (by decide) (hbw _ kf_X_50) (fun _ h9 => h9) rfl dX_mayFollow_1 ?_
  refine lv_if_ne (tgt := 16) hx hb dX_mayFollow_4 (by decide) (fun c_4 => ?_) (fun c_4 => ?_)
  · refine lv_aload_n hx hb dX_mayFollow_16 rfl (lv_at hl 0 rfl) ?_
    refine va_get (D := (dC, dI)) (ci := 0) (v := .ref (q 1)) (C := "EventPatterns") (T := TX) (N := 16) hx hb hbw inX hown hK hP 0 rfl rfl 0 (by decide) (hbw _ kf_X_9) (fun _ h9 => h9) rfl dX_mayFollow_17 ?_
    refine lv_iload_n hx hb dX_mayFollow_20 rfl (lv_at hl 3 rfl) ?_
    refine nr_iald hx hb hK hP 1 0 rfl rfl (j := nx) (by omega) (by decide) dX_mayFollow_21 ?_
    refine lv_aload_n hx hb dX_mayFollow_22 rfl (lv_at hl 0 rfl) ?_
    refine va_get (D := (dC, dI)) (ci := 0) (v := .ref (q 1)) (C := "EventPatterns") (T := TX) (N := 16) hx hb hbw inX hown hK hP 0 rfl rfl 0 (by decide) (hbw _ kf_X_9) (fun _ h9 => h9) rfl dX_mayFollow_23 ?_
    refine lv_iload_n hx hb dX_mayFollow_26 rfl (lv_at hl 1 rfl) ?_
    refine nr_iald hx hb hK hP 1 0 rfl rfl (j := fi) (by omega) (by decide) dX_mayFollow_27 ?_
    refine lv_isub hx hb dX_mayFollow_28 ?_
    refine lv_aload_n hx hb dX_mayFollow_29 rfl (lv_at hl 0 rfl) ?_
    refine va_get (D := (dC, dI)) (ci := 0) (v := .int (f 3)) (C := "EventPatterns") (T := TX) (N := 16) hx hb hbw inX hown hK hP 0 rfl rfl 10 (by decide) (hbw _ kf_X_53) (fun _ h9 => h9) rfl dX_mayFollow_30 ?_
    refine lv_icmp_gt (tgt := 40) hx hb dX_mayFollow_33 (by decide) (fun c_33 => ?_) (fun c_33 => ?_)
    · refine lv_iconst (v := 0) hx hb dX_mayFollow_40 (by decide) ?_
      exact W.zret (v := 0) hx hb hr rfl (fun t ht hW => ⟨0, rfl, by first | (simp [xMay, bI, *]; done) | (subst_vars; simp [xMay, bI, *]; done) | (subst_vars; simp_all [xMay, bI]; done), ht⟩) (fun q h => by cases h) dX_mayFollow_41
    · refine lv_iconst (v := 1) hx hb dX_mayFollow_36 (by decide) ?_
      refine lv_goto (tgt := 41) hx hb dX_mayFollow_37 (by decide) ?_
      exact W.zret (v := 1) hx hb hr rfl (fun t ht hW => ⟨1, rfl, by first | (simp [xMay, bI, *]; done) | (subst_vars; simp [xMay, bI, *]; done) | (subst_vars; simp_all [xMay, bI]; done), ht⟩) (fun q h => by cases h) dX_mayFollow_41
  · refine lv_iload_n hx hb dX_mayFollow_7 rfl (lv_at hl 3 rfl) ?_
    refine lv_iload_n hx hb dX_mayFollow_8 rfl (lv_at hl 2 rfl) ?_
    refine lv_iconst (v := 1) hx hb dX_mayFollow_9 (by decide) ?_
    refine nr_iadd hx hb (a1 := pl) (b1 := 1) dX_mayFollow_10 ?_
    refine nr_icmp_eq (tgt := 16) hx hb (a1 := nx) (b1 := pl + 1) (by omega) (by omega) dX_mayFollow_11 (by decide) (fun c_11 => ?_) (fun c_11 => ?_)
    · refine lv_aload_n hx hb dX_mayFollow_16 rfl (lv_at hl 0 rfl) ?_
      refine va_get (D := (dC, dI)) (ci := 0) (v := .ref (q 1)) (C := "EventPatterns") (T := TX) (N := 16) hx hb hbw inX hown hK hP 0 rfl rfl 0 (by decide) (hbw _ kf_X_9) (fun _ h9 => h9) rfl dX_mayFollow_17 ?_
      refine lv_iload_n hx hb dX_mayFollow_20 rfl (lv_at hl 3 rfl) ?_
      refine nr_iald hx hb hK hP 1 0 rfl rfl (j := nx) (by omega) (by decide) dX_mayFollow_21 ?_
      refine lv_aload_n hx hb dX_mayFollow_22 rfl (lv_at hl 0 rfl) ?_
      refine va_get (D := (dC, dI)) (ci := 0) (v := .ref (q 1)) (C := "EventPatterns") (T := TX) (N := 16) hx hb hbw inX hown hK hP 0 rfl rfl 0 (by decide) (hbw _ kf_X_9) (fun _ h9 => h9) rfl dX_mayFollow_23 ?_
      refine lv_iload_n hx hb dX_mayFollow_26 rfl (lv_at hl 1 rfl) ?_
      refine nr_iald hx hb hK hP 1 0 rfl rfl (j := fi) (by omega) (by decide) dX_mayFollow_27 ?_
      refine lv_isub hx hb dX_mayFollow_28 ?_
      refine lv_aload_n hx hb dX_mayFollow_29 rfl (lv_at hl 0 rfl) ?_
      refine va_get (D := (dC, dI)) (ci := 0) (v := .int (f 3)) (C := "EventPatterns") (T := TX) (N := 16) hx hb hbw inX hown hK hP 0 rfl rfl 10 (by decide) (hbw _ kf_X_53) (fun _ h9 => h9) rfl dX_mayFollow_30 ?_
      refine lv_icmp_gt (tgt := 40) hx hb dX_mayFollow_33 (by decide) (fun c_33 => ?_) (fun c_33 => ?_)
      · refine lv_iconst (v := 0) hx hb dX_mayFollow_40 (by decide) ?_
        exact W.zret (v := 0) hx hb hr rfl (fun t ht hW => ⟨0, rfl, by first | (simp [xMay, bI, *]; done) | (subst_vars; simp [xMay, bI, *]; done) | (subst_vars; simp_all [xMay, bI]; done), ht⟩) (fun q h => by cases h) dX_mayFollow_41
      · refine lv_iconst (v := 1) hx hb dX_mayFollow_36 (by decide) ?_
        refine lv_goto (tgt := 41) hx hb dX_mayFollow_37 (by decide) ?_
        exact W.zret (v := 1) hx hb hr rfl (fun t ht hW => ⟨1, rfl, by first | (simp [xMay, bI, *]; done) | (subst_vars; simp [xMay, bI, *]; done) | (subst_vars; simp_all [xMay, bI]; done), ht⟩) (fun q h => by cases h) dX_mayFollow_41
    · refine lv_iconst (v := 0) hx hb dX_mayFollow_14 (by decide) ?_
      exact W.zret (v := 0) hx hb hr rfl (fun t ht hW => ⟨0, rfl, by first | (simp [xMay, bI, *]; done) | (subst_vars; simp [xMay, bI, *]; done) | (subst_vars; simp_all [xMay, bI]; done), ht⟩) (fun q h => by cases h) dX_mayFollow_15
set_option maxHeartbeats 4000000 in
set_option maxRecDepth 100000 in
/-- fits(place, step, ahead, first) -/
theorem tX_fits (l : Launch) (dC : Nat → ClassId) (dI : Nat → Nat → Nat) (q : Nat → Nat) (cI cZ cG : ClassId) (a : Nat → Nat → Int32) (f : Nat → Int32) (w : Nat → Nat → Int32) (pl st ah fi : Nat) (h1 : pl < 16) (h2 : st < 5) (h3 : ah < 16) (h4 : fi < 16) : Met l yX_fits wX_fits ({ frames := 0, cells := 0, slots := 0, locals := 0 }) (va_Pc [.ref (q 0), .int (nI (pl)), .int (nI (st)), .int (nI (ah)), .int (nI (fi))] (fun U => va_P (dC, dI) cls2 (xw q cI cZ cG a f w) U.heap ∧ va_K (dC, dI) cls2 (xt cI cZ cG) U)) (vp_Si (fun r0 => r0 = bI (xFit a pl st ah fi))) 0 0 (fun _ => False) := by
  refine Met.ofW (cc := cX_fits) (maxL := 6) (ret := (some .boolean)) (by decide) rfl ?_
  intro p e s m args below meth c s₁ B hml hv
  obtain ⟨rfl, hP, hK⟩ := hv
  have hx := B.exec
  have hb := B.bytes
  have hr := B.returns
  have hbw : ∀ w ∈ bw, w.before _ s = true := fun w h => atoms_spec (ws := wX_fits) B.pre w (List.mem_cons_of_mem _ h)
  have hown : s.vm.findClass "EventPatterns" = some m.cls := findClass_of_methodNamed B.named
  have hlocks := B.notSynchronized
  have hl := lv_entry ([.ref (q 0), .int (nI (pl)), .int (nI (st)), .int (nI (ah)), .int (nI (fi))]) (n := 6) (Nat.le_of_ble_eq_true rfl)
  rw [lg_entry_eq]
  generalize (lg_sl ([.ref (q 0), .int (nI (pl)), .int (nI (st)), .int (nI (ah)), .int (nI (fi))]) ++ List.replicate (6 - (lg_sl ([.ref (q 0), .int (nI (pl)), .int (nI (st)), .int (nI (ah)), .int (nI (fi))])).length) Slot.unset).toArray = ls at hl ⊢
  have hl : lv_has ls 6 [(0, .ref (q 0)), (1, .int (nI (pl))), (2, .int (nI (st))), (3, .int (nI (ah))), (4, .int (nI (fi)))] := hl
  refine lv_aload_n hx hb dX_fits_0 rfl (lv_at hl 0 rfl) ?_
  refine va_get (D := (dC, dI)) (ci := 0) (v := .ref (q 4)) (C := "EventPatterns") (T := TX) (N := 16) hx hb hbw inX hown hK hP 0 rfl rfl 5 (by decide) (hbw _ kf_X_19) (fun _ h9 => h9) rfl dX_fits_1 ?_
  refine lv_iload_n hx hb dX_fits_4 rfl (lv_at hl 2 rfl) ?_
  refine nr_iald hx hb hK hP 4 0 rfl rfl (j := st) (by omega) (by decide) dX_fits_5 ?_
  refine lv_aload_n hx hb dX_fits_6 rfl (lv_at hl 0 rfl) ?_
  refine va_get (D := (dC, dI)) (ci := 0) (v := .ref (q 2)) (C := "EventPatterns") (T := TX) (N := 16) hx hb hbw inX hown hK hP 0 rfl rfl 1 (by decide) (hbw _ kf_X_13) (fun _ h9 => h9) rfl dX_fits_7 ?_
  refine lv_iload_n hx hb dX_fits_10 rfl (lv_at hl 1 rfl) ?_
  refine nr_iald hx hb hK hP 2 0 rfl rfl (j := pl) (by omega) (by decide) dX_fits_11 ?_
  refine lv_ishr hx hb dX_fits_12 ?_
  refine lv_iconst (v := 1) hx hb dX_fits_13 (by decide) ?_
  refine lv_iand hx hb dX_fits_14 ?_
  refine lv_if_ne (tgt := 20) hx hb dX_fits_15 (by decide) (fun c_15 => ?_) (fun c_15 => ?_)
  · refine lv_aload_n hx hb dX_fits_20 rfl (lv_at hl 0 rfl) ?_
    refine va_get (D := (dC, dI)) (ci := 0) (v := .ref (q 3)) (C := "EventPatterns") (T := TX) (N := 16) hx hb hbw inX hown hK hP 0 rfl rfl 2 (by decide) (hbw _ kf_X_16) (fun _ h9 => h9) rfl dX_fits_21 ?_
    refine lv_iload_n hx hb dX_fits_24 rfl (lv_at hl 1 rfl) ?_
    refine nr_iald hx hb hK hP 3 0 rfl rfl (j := pl) (by omega) (by decide) dX_fits_25 ?_
    refine lv_istore (lv' := [(5, .int ((a 2) (pl))), (0, .ref (q 0)), (1, .int (nI (pl))), (2, .int (nI (st))), (3, .int (nI (ah))), (4, .int (nI (fi)))]) hx hb dX_fits_26 hl (by decide) rfl (fun ls hl => ?_)
    refine lv_aload_n hx hb dX_fits_28 rfl (lv_at hl 1 rfl) ?_
    refine va_get (D := (dC, dI)) (ci := 0) (v := .ref (q 5)) (C := "EventPatterns") (T := TX) (N := 16) hx hb hbw inX hown hK hP 0 rfl rfl 6 (by decide) (hbw _ kf_X_22) (fun _ h9 => h9) rfl dX_fits_29 ?_
    refine lv_iload_n hx hb dX_fits_32 rfl (lv_at hl 3 rfl) ?_
    refine nr_iald hx hb hK hP 5 0 rfl rfl (j := st) (by omega) (by decide) dX_fits_33 ?_
    by_cases t1 : (a 4) (st) = 1
    · refine lv_tableIn (off := 30) (tgt := 64) hx hb dX_fits_34 (by rw [t1]; decide) (by rw [t1]; decide) (by rw [t1]; decide) (by decide) ?_
      refine lv_iload_n hx hb dX_fits_64 rfl (lv_at hl 2 rfl) ?_
      refine lv_iload hx hb dX_fits_65 (lv_at hl 5 rfl) ?_
      refine nr_icmp_eq (tgt := 81) hx hb (a1 := pl) (b1 := fi) (by omega) (by omega) dX_fits_67 (by decide) (fun c_67 => ?_) (fun c_67 => ?_)
      · refine lv_iconst (v := 1) hx hb dX_fits_81 (by decide) ?_
        refine lv_goto (tgt := 86) hx hb dX_fits_82 (by decide) ?_
        exact W.zret (v := 1) hx hb hr rfl (fun t ht hW => ⟨1, rfl, by first | (simp [xFit, bI, *]; done) | (subst_vars; simp [xFit, bI, *]; done) | (subst_vars; simp_all [xFit, bI]; done), ht⟩) (fun q h => by cases h) dX_fits_86
      · refine lv_iload hx hb dX_fits_70 (lv_at hl 0 rfl) ?_
        refine lv_aload_n hx hb dX_fits_72 rfl (lv_at hl 1 rfl) ?_
        refine va_get (D := (dC, dI)) (ci := 0) (v := .ref (q 3)) (C := "EventPatterns") (T := TX) (N := 16) hx hb hbw inX hown hK hP 0 rfl rfl 2 (by decide) (hbw _ kf_X_16) (fun _ h9 => h9) rfl dX_fits_73 ?_
        refine lv_iload_n hx hb dX_fits_76 rfl (lv_at hl 4 rfl) ?_
        refine nr_iald hx hb hK hP 3 0 rfl rfl (j := ah) (by omega) (by decide) dX_fits_77 ?_
        refine lv_icmp_le (tgt := 85) hx hb dX_fits_78 (by decide) (fun c_78 => ?_) (fun c_78 => ?_)
        · refine lv_iconst (v := 0) hx hb dX_fits_85 (by decide) ?_
          exact W.zret (v := 0) hx hb hr rfl (fun t ht hW => ⟨0, rfl, by first | (simp [xFit, bI, *]; done) | (subst_vars; simp [xFit, bI, *]; done) | (subst_vars; simp_all [xFit, bI]; done), ht⟩) (fun q h => by cases h) dX_fits_86
        · refine lv_iconst (v := 1) hx hb dX_fits_81 (by decide) ?_
          refine lv_goto (tgt := 86) hx hb dX_fits_82 (by decide) ?_
          exact W.zret (v := 1) hx hb hr rfl (fun t ht hW => ⟨1, rfl, by first | (simp [xFit, bI, *]; done) | (subst_vars; simp [xFit, bI, *]; done) | (subst_vars; simp_all [xFit, bI]; done), ht⟩) (fun q h => by cases h) dX_fits_86
    by_cases t2 : (a 4) (st) = 2
    · refine lv_tableIn (off := 53) (tgt := 87) hx hb dX_fits_34 (by rw [t2]; decide) (by rw [t2]; decide) (by rw [t2]; decide) (by decide) ?_
      refine lv_iload_n hx hb dX_fits_87 rfl (lv_at hl 2 rfl) ?_
      refine lv_iload hx hb dX_fits_88 (lv_at hl 5 rfl) ?_
      refine nr_icmp_eq (tgt := 104) hx hb (a1 := pl) (b1 := fi) (by omega) (by omega) dX_fits_90 (by decide) (fun c_90 => ?_) (fun c_90 => ?_)
      · refine lv_iconst (v := 1) hx hb dX_fits_104 (by decide) ?_
        refine lv_goto (tgt := 109) hx hb dX_fits_105 (by decide) ?_
        exact W.zret (v := 1) hx hb hr rfl (fun t ht hW => ⟨1, rfl, by first | (simp [xFit, bI, *]; done) | (subst_vars; simp [xFit, bI, *]; done) | (subst_vars; simp_all [xFit, bI]; done), ht⟩) (fun q h => by cases h) dX_fits_109
      · refine lv_iload hx hb dX_fits_93 (lv_at hl 0 rfl) ?_
        refine lv_aload_n hx hb dX_fits_95 rfl (lv_at hl 1 rfl) ?_
        refine va_get (D := (dC, dI)) (ci := 0) (v := .ref (q 3)) (C := "EventPatterns") (T := TX) (N := 16) hx hb hbw inX hown hK hP 0 rfl rfl 2 (by decide) (hbw _ kf_X_16) (fun _ h9 => h9) rfl dX_fits_96 ?_
        refine lv_iload_n hx hb dX_fits_99 rfl (lv_at hl 4 rfl) ?_
        refine nr_iald hx hb hK hP 3 0 rfl rfl (j := ah) (by omega) (by decide) dX_fits_100 ?_
        refine lv_icmp_ge (tgt := 108) hx hb dX_fits_101 (by decide) (fun c_101 => ?_) (fun c_101 => ?_)
        · refine lv_iconst (v := 0) hx hb dX_fits_108 (by decide) ?_
          exact W.zret (v := 0) hx hb hr rfl (fun t ht hW => ⟨0, rfl, by first | (simp [xFit, bI, *]; done) | (subst_vars; simp [xFit, bI, *]; done) | (subst_vars; simp_all [xFit, bI]; done), ht⟩) (fun q h => by cases h) dX_fits_109
        · refine lv_iconst (v := 1) hx hb dX_fits_104 (by decide) ?_
          refine lv_goto (tgt := 109) hx hb dX_fits_105 (by decide) ?_
          exact W.zret (v := 1) hx hb hr rfl (fun t ht hW => ⟨1, rfl, by first | (simp [xFit, bI, *]; done) | (subst_vars; simp [xFit, bI, *]; done) | (subst_vars; simp_all [xFit, bI]; done), ht⟩) (fun q h => by cases h) dX_fits_109
    by_cases t3 : (a 4) (st) = 3
    · refine lv_tableIn (off := 76) (tgt := 110) hx hb dX_fits_34 (by rw [t3]; decide) (by rw [t3]; decide) (by rw [t3]; decide) (by decide) ?_
      refine lv_iload hx hb dX_fits_110 (lv_at hl 0 rfl) ?_
      refine lv_aload_n hx hb dX_fits_112 rfl (lv_at hl 1 rfl) ?_
      refine va_get (D := (dC, dI)) (ci := 0) (v := .ref (q 3)) (C := "EventPatterns") (T := TX) (N := 16) hx hb hbw inX hown hK hP 0 rfl rfl 2 (by decide) (hbw _ kf_X_16) (fun _ h9 => h9) rfl dX_fits_113 ?_
      refine lv_iload hx hb dX_fits_116 (lv_at hl 5 rfl) ?_
      refine nr_iald hx hb hK hP 3 0 rfl rfl (j := fi) (by omega) (by decide) dX_fits_118 ?_
      refine lv_icmp_ne (tgt := 126) hx hb dX_fits_119 (by decide) (fun c_119 => ?_) (fun c_119 => ?_)
      · refine lv_iconst (v := 0) hx hb dX_fits_126 (by decide) ?_
        exact W.zret (v := 0) hx hb hr rfl (fun t ht hW => ⟨0, rfl, by first | (simp [xFit, bI, *]; done) | (subst_vars; simp [xFit, bI, *]; done) | (subst_vars; simp_all [xFit, bI]; done), ht⟩) (fun q h => by cases h) dX_fits_127
      · refine lv_iconst (v := 1) hx hb dX_fits_122 (by decide) ?_
        refine lv_goto (tgt := 127) hx hb dX_fits_123 (by decide) ?_
        exact W.zret (v := 1) hx hb hr rfl (fun t ht hW => ⟨1, rfl, by first | (simp [xFit, bI, *]; done) | (subst_vars; simp [xFit, bI, *]; done) | (subst_vars; simp_all [xFit, bI]; done), ht⟩) (fun q h => by cases h) dX_fits_127
    by_cases t4 : (a 4) (st) = 4
    · refine lv_tableIn (off := 94) (tgt := 128) hx hb dX_fits_34 (by rw [t4]; decide) (by rw [t4]; decide) (by rw [t4]; decide) (by decide) ?_
      refine lv_iload hx hb dX_fits_128 (lv_at hl 0 rfl) ?_
      refine lv_aload_n hx hb dX_fits_130 rfl (lv_at hl 1 rfl) ?_
      refine va_get (D := (dC, dI)) (ci := 0) (v := .ref (q 6)) (C := "EventPatterns") (T := TX) (N := 16) hx hb hbw inX hown hK hP 0 rfl rfl 7 (by decide) (hbw _ kf_X_25) (fun _ h9 => h9) rfl dX_fits_131 ?_
      refine lv_iload_n hx hb dX_fits_134 rfl (lv_at hl 3 rfl) ?_
      refine nr_iald hx hb hK hP 6 0 rfl rfl (j := st) (by omega) (by decide) dX_fits_135 ?_
      refine lv_icmp_lt (tgt := 143) hx hb dX_fits_136 (by decide) (fun c_136 => ?_) (fun c_136 => ?_)
      · refine lv_iconst (v := 0) hx hb dX_fits_143 (by decide) ?_
        exact W.zret (v := 0) hx hb hr rfl (fun t ht hW => ⟨0, rfl, by first | (simp [xFit, bI, *]; done) | (subst_vars; simp [xFit, bI, *]; done) | (subst_vars; simp_all [xFit, bI]; done), ht⟩) (fun q h => by cases h) dX_fits_144
      · refine lv_iconst (v := 1) hx hb dX_fits_139 (by decide) ?_
        refine lv_goto (tgt := 144) hx hb dX_fits_140 (by decide) ?_
        exact W.zret (v := 1) hx hb hr rfl (fun t ht hW => ⟨1, rfl, by first | (simp [xFit, bI, *]; done) | (subst_vars; simp [xFit, bI, *]; done) | (subst_vars; simp_all [xFit, bI]; done), ht⟩) (fun q h => by cases h) dX_fits_144
    have u1 := lv_neT t1 (show (1 : Int32).toInt = 1 from rfl)
    have u2 := lv_neT t2 (show (2 : Int32).toInt = 2 from rfl)
    have u3 := lv_neT t3 (show (3 : Int32).toInt = 3 from rfl)
    have u4 := lv_neT t4 (show (4 : Int32).toInt = 4 from rfl)
    refine lv_tableOut (tgt := 145) hx hb dX_fits_34 (by omega) (by decide) ?_
    refine lv_iconst (v := 1) hx hb dX_fits_145 (by decide) ?_
    exact W.zret (v := 1) hx hb hr rfl (fun t ht hW => ⟨1, rfl, by first | (simp [xFit, bI, *]; done) | (subst_vars; simp [xFit, bI, *]; done) | (subst_vars; simp_all [xFit, bI]; done), ht⟩) (fun q h => by cases h) dX_fits_146
  · refine lv_iconst (v := 0) hx hb dX_fits_18 (by decide) ?_
    exact W.zret (v := 0) hx hb hr rfl (fun t ht hW => ⟨0, rfl, by first | (simp [xFit, bI, *]; done) | (subst_vars; simp [xFit, bI, *]; done) | (subst_vars; simp_all [xFit, bI]; done), ht⟩) (fun q h => by cases h) dX_fits_19
