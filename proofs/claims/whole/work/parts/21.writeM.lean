/-! THE REFERENCE: event, pattern, step -/
def mLate (b : Nat → Nat → Int32) (ev : Nat) : Int32 := if ev = 0 then 0 else b 0 (ev - 1)
def mEvT (b : Nat → Nat → Int32) (ev : Nat) (tm kd : Int32) : Nat := mTh (!(iIn tm (mLate b ev) 1000000 && iIn kd 0 7)) (decide (ev = 400)) false
def mEvB (b : Nat → Nat → Int32) (ev : Nat) (tm kd va : Int32) : Nat → Nat → Int32 := va_up (va_up (va_up b 0 (upd (b 0) ev tm)) 1 (upd (b 1) ev kd)) 2 (upd (b 2) ev va)
def mPaT (sy sp : Int32) : Nat := mTh (!iIn sy 0 1 || !iIn sp 0 1000000) false false
def mStT (ms : Nat) (ki te : Int32) : Nat := mTh (!(iIn ki 1 255 && iIn te 0 4)) (decide (ms = 5)) false
def mStB (b : Nat → Nat → Int32) (ms : Nat) (ki te nn mb : Int32) : Nat → Nat → Int32 := va_up (va_up (va_up (va_up b 3 (upd (b 3) ms ki)) 4 (upd (b 4) ms te)) 5 (upd (b 5) ms nn)) 6 (upd (b 6) ms (vp_nar .boolean mb))
set_option maxHeartbeats 4000000 in
set_option maxRecDepth 100000 in
/-- event(time, kind, value) -/
theorem tM_event (l : Launch) (dC : Nat → ClassId) (dI : Nat → Nat → Nat) (r : Nat → Nat) (cI cZ cG : ClassId) (b : Nat → Nat → Int32) (g : Nat → Int32) (sz : Nat) (ev : Nat) (tm kd va : Int32) (hev : ev ≤ 400) (hg1 : g 1 = nI ev) : Met l yM_event wM_event ({ frames := 1, cells := 0, slots := 0, locals := 23 }) (va_Pc [.ref (r 0), .int (tm), .int (kd), .int (va)] (fun U => U.heap.size = sz ∧ va_P (dC, dI) cls2 (mw r cI cZ b g) U.heap ∧ va_K (dC, dI) cls2 (xt cI cZ cG) U ∧ va_D (fun _ => True) (mw r cI cZ b g))) (va_Qi (fun (r0 : Int32) (u : MS) => (mEvT b ev tm kd = 0 → r0 = nI ev ∧ u = (mEvB b ev tm kd va, va_up (va_up g 0 (nI (mTh false false false))) 1 (nI (ev + 1)))) ∧ (¬ mEvT b ev tm kd = 0 → u = (b, va_up g 0 (nI (mEvT b ev tm kd))))) (atM dC dI r cI cZ cG (va_A (mw r cI cZ b g) sz)) (va_A (mw r cI cZ b g) sz)) 0 0 (va_A (mw r cI cZ b g) sz) := by
  refine Met.ofW (cc := cM_event) (maxL := 5) (ret := (some .int)) (by decide) rfl ?_
  intro p e s m args below meth c s₁ B hml hv
  obtain ⟨rfl, hsz, hP, hK, hD0⟩ := hv
  have hx := B.exec
  have hb := B.bytes
  have hr := B.returns
  have hbw : ∀ w ∈ bw, w.before _ s = true := fun w h => atoms_spec (ws := wM_event) B.pre w (List.mem_cons_of_mem _ h)
  have hown : s.vm.findClass "EventPatternsModel" = some m.cls := findClass_of_methodNamed B.named
  have hlocks := B.notSynchronized
  subst hsz
  have hD := hD0.self (sz := s.heap.size)
  generalize hAe : va_A (mw r cI cZ b g) s.heap.size = A at hD ⊢
  have hA : ∀ q : Nat, s.heap.size ≤ q → A q := fun q h => by rw [← hAe]; exact Or.inr h
  have hS : va_S A s.heap s.heap [] := va_S.rf
  have hl := lv_entry ([.ref (r 0), .int (tm), .int (kd), .int (va)]) (n := 5) (Nat.le_of_ble_eq_true rfl)
  rw [lg_entry_eq]
  generalize (lg_sl ([.ref (r 0), .int (tm), .int (kd), .int (va)]) ++ List.replicate (5 - (lg_sl ([.ref (r 0), .int (tm), .int (kd), .int (va)])).length) Slot.unset).toArray = ls at hl ⊢
  have hl : lv_has ls 5 [(0, .ref (r 0)), (1, .int (tm)), (2, .int (kd)), (3, .int (va))] := hl
  refine lv_iload_n hx hb dM_event_0 rfl (lv_at hl 1 rfl) ?_
  refine lv_aload_n hx hb dM_event_1 rfl (lv_at hl 0 rfl) ?_
  refine va_get (D := (dC, dI)) (ci := 1) (v := .int (nI (ev))) (C := "EventPatternsModel") (T := TM) (N := 16) hx hb hbw inM hown hK hP 0 rfl rfl 1 (by decide) (hbw _ kf_M_45) (fun _ h9 => h9) (congrArg (fun z => some (Value.int z)) (hg1)) dM_event_2 ?_
  refine nr_if_le (tgt := 22) hx hb (a1 := ev) (by omega) dM_event_5 (by decide) (fun c_5 => ?_) (fun c_5 => ?_)
  · refine lv_iconst (v := 0) hx hb dM_event_22 (by decide) ?_
    refine W.eq (g2 := F0 m 23 ls [.int (mLate b ev), .int (tm)]) (by first | rw [mLate, if_pos (by omega)] | rw [mLate, if_neg (by omega)]) ?_
    refine lv_ldc (v := 1000000) hx hb hown (hbw _ kk_M_48) dM_event_23 ?_
    refine vp_callSi (W.runS (As := [.int (tm), .int (mLate b ev), .int (1000000)]) (rest := []) ⟨hx, hb, hml, hown, hbw⟩ (tM_in l (tm) (mLate b ev) (1000000)) (cwS 3 hbw (bw_S km_M_49 ks_yM_in ki_EventPatternsModel kcM_in) rfl rfl rfl (by decide +kernel) ⟨Nat.le_of_ble_eq_true rfl, Nat.le_of_ble_eq_true rfl⟩) ⟨fun a U g mk q => q, fun U hU hW => ⟨rfl, trivial⟩⟩ rfl rfl hl.1 rfl (lv_room (Nat.le_of_ble_eq_true rfl)) dM_event_25 ⟨Nat.le_of_ble_eq_true rfl, Nat.le_of_ble_eq_true rfl⟩) (fun r_25 hq => ?_)
    subst hq
    refine nr_ifb_eq (tgt := 45) hx hb (b := (iIn (tm) (mLate b ev) (1000000))) dM_event_28 (by decide) (fun c_28 => ?_) (fun c_28 => ?_)
    · refine lv_iconst (v := 0) hx hb dM_event_45 (by decide) ?_
      refine lv_istore (lv' := [(4, .int (0)), (0, .ref (r 0)), (1, .int (tm)), (2, .int (kd)), (3, .int (va))]) hx hb dM_event_46 hl (by decide) rfl (fun ls hl => ?_)
      refine lv_aload_n hx hb dM_event_48 rfl (lv_at hl 1 rfl) ?_
      refine lv_iload hx hb dM_event_49 (lv_at hl 0 rfl) ?_
      refine lv_if_ne (tgt := 58) hx hb dM_event_51 (by decide) (fun c9 => absurd c9 (by decide)) (fun _ => ?_)
      refine lv_iconst (v := 1) hx hb dM_event_54 (by decide) ?_
      refine lv_goto (tgt := 59) hx hb dM_event_55 (by decide) ?_
      refine lv_aload_n hx hb dM_event_59 rfl (lv_at hl 1 rfl) ?_
      refine va_get (D := (dC, dI)) (ci := 1) (v := .int (nI (ev))) (C := "EventPatternsModel") (T := TM) (N := 16) hx hb hbw inM hown hK hP 0 rfl rfl 1 (by decide) (hbw _ kf_M_45) (fun _ h9 => h9) (congrArg (fun z => some (Value.int z)) (hg1)) dM_event_60 ?_
      refine lv_sipush (v := 400) hx hb dM_event_63 (by decide) ?_
      refine nr_icmp_ne (tgt := 73) hx hb (a1 := ev) (b1 := 400) (by omega) (by omega) dM_event_66 (by decide) (fun c_66 => ?_) (fun c_66 => ?_)
      · refine lv_iconst (v := 0) hx hb dM_event_73 (by decide) ?_
        refine lv_iconst (v := 0) hx hb dM_event_74 (by decide) ?_
        have hFc := va_free (wc := mw r cI cZ (b) (g)) hD hS hA (List.range 11) rfl
        refine va_calli (va_runV (As := [.int (1), .int (0), .int (0)]) (rest := []) ⟨hx, hb, hml, hown, hbw⟩ (tM_refuse l dC dI r cI cZ cG (b) (g) s.heap.size true false false) (cwV 3 hbw (bw_V km_M_53 ki_yM_refuse ksel_yM_refuse ki_EventPatternsModel kcM_refuse) rfl rfl rfl (by decide +kernel) ⟨Nat.le_of_ble_eq_true rfl, Nat.le_of_ble_eq_true rfl⟩) ⟨fun a U g mk q => by obtain ⟨q0, q1, qP, qK, qD⟩ := q; exact ⟨q0, q1, qP, va_K.moved (u := U) (U := U.calling g mk a) (Vm.Alike.refl U.vm) qK, qD⟩, va_recv hK hP (ci := 1) (q0 := 0) rfl rfl, fun U hU hW => ⟨rfl, by rw [hU], by rw [hU]; exact hP, va_K.moved hW.alike hK, hD.weaken (fun _ _ _ _ => trivial)⟩⟩ rfl rfl hl.1 rfl (lv_room (Nat.le_of_ble_eq_true rfl)) dM_event_75 ⟨Nat.le_of_ble_eq_true rfl, Nat.le_of_ble_eq_true rfl⟩) hS (fun q _ h => hFc q h) hFc (fun r_75 u t H1 locs ht hvm hq hB hz1 hk1 hS => ?_)
        obtain ⟨hq1, hq⟩ := hq
        have hq1 : r_75 = 1 := hq1
        subst hq1
        obtain rfl := hq
        obtain ⟨hP1, hK1, hD1⟩ := hB
        rw [ht] at hP1
        have hP : va_P (dC, dI) cls2 (mw r cI cZ (b) (va_up (g) 0 (nI (mTh true false false)))) H1 := hP1
        have hD : va_D A (mw r cI cZ (b) (va_up (g) 0 (nI (mTh true false false)))) := hD1.weaken (fun _ _ _ h => hFc _ h)
        generalize H1 = H at hP hS ⊢
        refine lv_if_eq (tgt := 83) hx hb dM_event_78 (by decide) (fun c9 => absurd c9 (by decide)) (fun _ => ?_)
        refine lv_iconst (v := 0) hx hb dM_event_81 (by decide) ?_
        have hT : mEvT b ev tm kd = mTh true false false := by first | (rw [mEvT, c_28, c_38, decide_eq_true c_66]; rfl) | (rw [mEvT, c_28, c_38, decide_eq_false c_66]; rfl) | (rw [mEvT, c_28, decide_eq_true c_66]; rfl) | (rw [mEvT, c_28, decide_eq_false c_66]; rfl)
        rw [← hT] at hP hD
        exact W.iret (v := 0) hx hb hr (fun t ht hW => ⟨⟨0, (b, va_up g 0 (nI (mEvT b ev tm kd))), rfl, ⟨fun h9 => absurd h9 (by rw [hT]; decide), fun _ => rfl⟩, by rw [ht]; exact hP, va_K.moved hW.alike hK, hD⟩, hS.F ht⟩) hS.2.2 dM_event_82
      · refine lv_iconst (v := 1) hx hb dM_event_69 (by decide) ?_
        refine lv_goto (tgt := 74) hx hb dM_event_70 (by decide) ?_
        refine lv_iconst (v := 0) hx hb dM_event_74 (by decide) ?_
        have hFc := va_free (wc := mw r cI cZ (b) (g)) hD hS hA (List.range 11) rfl
        refine va_calli (va_runV (As := [.int (1), .int (1), .int (0)]) (rest := []) ⟨hx, hb, hml, hown, hbw⟩ (tM_refuse l dC dI r cI cZ cG (b) (g) s.heap.size true true false) (cwV 3 hbw (bw_V km_M_53 ki_yM_refuse ksel_yM_refuse ki_EventPatternsModel kcM_refuse) rfl rfl rfl (by decide +kernel) ⟨Nat.le_of_ble_eq_true rfl, Nat.le_of_ble_eq_true rfl⟩) ⟨fun a U g mk q => by obtain ⟨q0, q1, qP, qK, qD⟩ := q; exact ⟨q0, q1, qP, va_K.moved (u := U) (U := U.calling g mk a) (Vm.Alike.refl U.vm) qK, qD⟩, va_recv hK hP (ci := 1) (q0 := 0) rfl rfl, fun U hU hW => ⟨rfl, by rw [hU], by rw [hU]; exact hP, va_K.moved hW.alike hK, hD.weaken (fun _ _ _ _ => trivial)⟩⟩ rfl rfl hl.1 rfl (lv_room (Nat.le_of_ble_eq_true rfl)) dM_event_75 ⟨Nat.le_of_ble_eq_true rfl, Nat.le_of_ble_eq_true rfl⟩) hS (fun q _ h => hFc q h) hFc (fun r_75 u t H1 locs ht hvm hq hB hz1 hk1 hS => ?_)
        obtain ⟨hq1, hq⟩ := hq
        have hq1 : r_75 = 1 := hq1
        subst hq1
        obtain rfl := hq
        obtain ⟨hP1, hK1, hD1⟩ := hB
        rw [ht] at hP1
        have hP : va_P (dC, dI) cls2 (mw r cI cZ (b) (va_up (g) 0 (nI (mTh true true false)))) H1 := hP1
        have hD : va_D A (mw r cI cZ (b) (va_up (g) 0 (nI (mTh true true false)))) := hD1.weaken (fun _ _ _ h => hFc _ h)
        generalize H1 = H at hP hS ⊢
        refine lv_if_eq (tgt := 83) hx hb dM_event_78 (by decide) (fun c9 => absurd c9 (by decide)) (fun _ => ?_)
        refine lv_iconst (v := 0) hx hb dM_event_81 (by decide) ?_
        have hT : mEvT b ev tm kd = mTh true true false := by first | (rw [mEvT, c_28, c_38, decide_eq_true c_66]; rfl) | (rw [mEvT, c_28, c_38, decide_eq_false c_66]; rfl) | (rw [mEvT, c_28, decide_eq_true c_66]; rfl) | (rw [mEvT, c_28, decide_eq_false c_66]; rfl)
        rw [← hT] at hP hD
        exact W.iret (v := 0) hx hb hr (fun t ht hW => ⟨⟨0, (b, va_up g 0 (nI (mEvT b ev tm kd))), rfl, ⟨fun h9 => absurd h9 (by rw [hT]; decide), fun _ => rfl⟩, by rw [ht]; exact hP, va_K.moved hW.alike hK, hD⟩, hS.F ht⟩) hS.2.2 dM_event_82
    · refine lv_iload_n hx hb dM_event_31 rfl (lv_at hl 2 rfl) ?_
      refine lv_iconst (v := 0) hx hb dM_event_32 (by decide) ?_
      refine lv_bipush (v := 7) hx hb dM_event_33 (by decide) ?_
      refine vp_callSi (W.runS (As := [.int (kd), .int (0), .int (7)]) (rest := []) ⟨hx, hb, hml, hown, hbw⟩ (tM_in l (kd) (0) (7)) (cwS 3 hbw (bw_S km_M_49 ks_yM_in ki_EventPatternsModel kcM_in) rfl rfl rfl (by decide +kernel) ⟨Nat.le_of_ble_eq_true rfl, Nat.le_of_ble_eq_true rfl⟩) ⟨fun a U g mk q => q, fun U hU hW => ⟨rfl, trivial⟩⟩ rfl rfl hl.1 rfl (lv_room (Nat.le_of_ble_eq_true rfl)) dM_event_35 ⟨Nat.le_of_ble_eq_true rfl, Nat.le_of_ble_eq_true rfl⟩) (fun r_35 hq => ?_)
      subst hq
      refine nr_ifb_eq (tgt := 45) hx hb (b := (iIn (kd) (0) (7))) dM_event_38 (by decide) (fun c_38 => ?_) (fun c_38 => ?_)
      · refine lv_iconst (v := 0) hx hb dM_event_45 (by decide) ?_
        refine lv_istore (lv' := [(4, .int (0)), (0, .ref (r 0)), (1, .int (tm)), (2, .int (kd)), (3, .int (va))]) hx hb dM_event_46 hl (by decide) rfl (fun ls hl => ?_)
        refine lv_aload_n hx hb dM_event_48 rfl (lv_at hl 1 rfl) ?_
        refine lv_iload hx hb dM_event_49 (lv_at hl 0 rfl) ?_
        refine lv_if_ne (tgt := 58) hx hb dM_event_51 (by decide) (fun c9 => absurd c9 (by decide)) (fun _ => ?_)
        refine lv_iconst (v := 1) hx hb dM_event_54 (by decide) ?_
        refine lv_goto (tgt := 59) hx hb dM_event_55 (by decide) ?_
        refine lv_aload_n hx hb dM_event_59 rfl (lv_at hl 1 rfl) ?_
        refine va_get (D := (dC, dI)) (ci := 1) (v := .int (nI (ev))) (C := "EventPatternsModel") (T := TM) (N := 16) hx hb hbw inM hown hK hP 0 rfl rfl 1 (by decide) (hbw _ kf_M_45) (fun _ h9 => h9) (congrArg (fun z => some (Value.int z)) (hg1)) dM_event_60 ?_
        refine lv_sipush (v := 400) hx hb dM_event_63 (by decide) ?_
        refine nr_icmp_ne (tgt := 73) hx hb (a1 := ev) (b1 := 400) (by omega) (by omega) dM_event_66 (by decide) (fun c_66 => ?_) (fun c_66 => ?_)
        · refine lv_iconst (v := 0) hx hb dM_event_73 (by decide) ?_
          refine lv_iconst (v := 0) hx hb dM_event_74 (by decide) ?_
          have hFc := va_free (wc := mw r cI cZ (b) (g)) hD hS hA (List.range 11) rfl
          refine va_calli (va_runV (As := [.int (1), .int (0), .int (0)]) (rest := []) ⟨hx, hb, hml, hown, hbw⟩ (tM_refuse l dC dI r cI cZ cG (b) (g) s.heap.size true false false) (cwV 3 hbw (bw_V km_M_53 ki_yM_refuse ksel_yM_refuse ki_EventPatternsModel kcM_refuse) rfl rfl rfl (by decide +kernel) ⟨Nat.le_of_ble_eq_true rfl, Nat.le_of_ble_eq_true rfl⟩) ⟨fun a U g mk q => by obtain ⟨q0, q1, qP, qK, qD⟩ := q; exact ⟨q0, q1, qP, va_K.moved (u := U) (U := U.calling g mk a) (Vm.Alike.refl U.vm) qK, qD⟩, va_recv hK hP (ci := 1) (q0 := 0) rfl rfl, fun U hU hW => ⟨rfl, by rw [hU], by rw [hU]; exact hP, va_K.moved hW.alike hK, hD.weaken (fun _ _ _ _ => trivial)⟩⟩ rfl rfl hl.1 rfl (lv_room (Nat.le_of_ble_eq_true rfl)) dM_event_75 ⟨Nat.le_of_ble_eq_true rfl, Nat.le_of_ble_eq_true rfl⟩) hS (fun q _ h => hFc q h) hFc (fun r_75 u t H1 locs ht hvm hq hB hz1 hk1 hS => ?_)
          obtain ⟨hq1, hq⟩ := hq
          have hq1 : r_75 = 1 := hq1
          subst hq1
          obtain rfl := hq
          obtain ⟨hP1, hK1, hD1⟩ := hB
          rw [ht] at hP1
          have hP : va_P (dC, dI) cls2 (mw r cI cZ (b) (va_up (g) 0 (nI (mTh true false false)))) H1 := hP1
          have hD : va_D A (mw r cI cZ (b) (va_up (g) 0 (nI (mTh true false false)))) := hD1.weaken (fun _ _ _ h => hFc _ h)
          generalize H1 = H at hP hS ⊢
          refine lv_if_eq (tgt := 83) hx hb dM_event_78 (by decide) (fun c9 => absurd c9 (by decide)) (fun _ => ?_)
          refine lv_iconst (v := 0) hx hb dM_event_81 (by decide) ?_
          have hT : mEvT b ev tm kd = mTh true false false := by first | (rw [mEvT, c_28, c_38, decide_eq_true c_66]; rfl) | (rw [mEvT, c_28, c_38, decide_eq_false c_66]; rfl) | (rw [mEvT, c_28, decide_eq_true c_66]; rfl) | (rw [mEvT, c_28, decide_eq_false c_66]; rfl)
          rw [← hT] at hP hD
          exact W.iret (v := 0) hx hb hr (fun t ht hW => ⟨⟨0, (b, va_up g 0 (nI (mEvT b ev tm kd))), rfl, ⟨fun h9 => absurd h9 (by rw [hT]; decide), fun _ => rfl⟩, by rw [ht]; exact hP, va_K.moved hW.alike hK, hD⟩, hS.F ht⟩) hS.2.2 dM_event_82
        · refine lv_iconst (v := 1) hx hb dM_event_69 (by decide) ?_
          refine lv_goto (tgt := 74) hx hb dM_event_70 (by decide) ?_
          refine lv_iconst (v := 0) hx hb dM_event_74 (by decide) ?_
          have hFc := va_free (wc := mw r cI cZ (b) (g)) hD hS hA (List.range 11) rfl
          refine va_calli (va_runV (As := [.int (1), .int (1), .int (0)]) (rest := []) ⟨hx, hb, hml, hown, hbw⟩ (tM_refuse l dC dI r cI cZ cG (b) (g) s.heap.size true true false) (cwV 3 hbw (bw_V km_M_53 ki_yM_refuse ksel_yM_refuse ki_EventPatternsModel kcM_refuse) rfl rfl rfl (by decide +kernel) ⟨Nat.le_of_ble_eq_true rfl, Nat.le_of_ble_eq_true rfl⟩) ⟨fun a U g mk q => by obtain ⟨q0, q1, qP, qK, qD⟩ := q; exact ⟨q0, q1, qP, va_K.moved (u := U) (U := U.calling g mk a) (Vm.Alike.refl U.vm) qK, qD⟩, va_recv hK hP (ci := 1) (q0 := 0) rfl rfl, fun U hU hW => ⟨rfl, by rw [hU], by rw [hU]; exact hP, va_K.moved hW.alike hK, hD.weaken (fun _ _ _ _ => trivial)⟩⟩ rfl rfl hl.1 rfl (lv_room (Nat.le_of_ble_eq_true rfl)) dM_event_75 ⟨Nat.le_of_ble_eq_true rfl, Nat.le_of_ble_eq_true rfl⟩) hS (fun q _ h => hFc q h) hFc (fun r_75 u t H1 locs ht hvm hq hB hz1 hk1 hS => ?_)
          obtain ⟨hq1, hq⟩ := hq
          have hq1 : r_75 = 1 := hq1
          subst hq1
          obtain rfl := hq
          obtain ⟨hP1, hK1, hD1⟩ := hB
          rw [ht] at hP1
          have hP : va_P (dC, dI) cls2 (mw r cI cZ (b) (va_up (g) 0 (nI (mTh true true false)))) H1 := hP1
          have hD : va_D A (mw r cI cZ (b) (va_up (g) 0 (nI (mTh true true false)))) := hD1.weaken (fun _ _ _ h => hFc _ h)
          generalize H1 = H at hP hS ⊢
          refine lv_if_eq (tgt := 83) hx hb dM_event_78 (by decide) (fun c9 => absurd c9 (by decide)) (fun _ => ?_)
          refine lv_iconst (v := 0) hx hb dM_event_81 (by decide) ?_
          have hT : mEvT b ev tm kd = mTh true true false := by first | (rw [mEvT, c_28, c_38, decide_eq_true c_66]; rfl) | (rw [mEvT, c_28, c_38, decide_eq_false c_66]; rfl) | (rw [mEvT, c_28, decide_eq_true c_66]; rfl) | (rw [mEvT, c_28, decide_eq_false c_66]; rfl)
          rw [← hT] at hP hD
          exact W.iret (v := 0) hx hb hr (fun t ht hW => ⟨⟨0, (b, va_up g 0 (nI (mEvT b ev tm kd))), rfl, ⟨fun h9 => absurd h9 (by rw [hT]; decide), fun _ => rfl⟩, by rw [ht]; exact hP, va_K.moved hW.alike hK, hD⟩, hS.F ht⟩) hS.2.2 dM_event_82
      · refine lv_iconst (v := 1) hx hb dM_event_41 (by decide) ?_
        refine lv_goto (tgt := 46) hx hb dM_event_42 (by decide) ?_
        refine lv_istore (lv' := [(4, .int (1)), (0, .ref (r 0)), (1, .int (tm)), (2, .int (kd)), (3, .int (va))]) hx hb dM_event_46 hl (by decide) rfl (fun ls hl => ?_)
        refine lv_aload_n hx hb dM_event_48 rfl (lv_at hl 1 rfl) ?_
        refine lv_iload hx hb dM_event_49 (lv_at hl 0 rfl) ?_
        refine lv_if_ne (tgt := 58) hx hb dM_event_51 (by decide) (fun _ => ?_) (fun c9 => absurd c9 (by decide))
        refine lv_iconst (v := 0) hx hb dM_event_58 (by decide) ?_
        refine lv_aload_n hx hb dM_event_59 rfl (lv_at hl 1 rfl) ?_
        refine va_get (D := (dC, dI)) (ci := 1) (v := .int (nI (ev))) (C := "EventPatternsModel") (T := TM) (N := 16) hx hb hbw inM hown hK hP 0 rfl rfl 1 (by decide) (hbw _ kf_M_45) (fun _ h9 => h9) (congrArg (fun z => some (Value.int z)) (hg1)) dM_event_60 ?_
        refine lv_sipush (v := 400) hx hb dM_event_63 (by decide) ?_
        refine nr_icmp_ne (tgt := 73) hx hb (a1 := ev) (b1 := 400) (by omega) (by omega) dM_event_66 (by decide) (fun c_66 => ?_) (fun c_66 => ?_)
        · refine lv_iconst (v := 0) hx hb dM_event_73 (by decide) ?_
          refine lv_iconst (v := 0) hx hb dM_event_74 (by decide) ?_
          have hFc := va_free (wc := mw r cI cZ (b) (g)) hD hS hA (List.range 11) rfl
          refine va_calli (va_runV (As := [.int (0), .int (0), .int (0)]) (rest := []) ⟨hx, hb, hml, hown, hbw⟩ (tM_refuse l dC dI r cI cZ cG (b) (g) s.heap.size false false false) (cwV 3 hbw (bw_V km_M_53 ki_yM_refuse ksel_yM_refuse ki_EventPatternsModel kcM_refuse) rfl rfl rfl (by decide +kernel) ⟨Nat.le_of_ble_eq_true rfl, Nat.le_of_ble_eq_true rfl⟩) ⟨fun a U g mk q => by obtain ⟨q0, q1, qP, qK, qD⟩ := q; exact ⟨q0, q1, qP, va_K.moved (u := U) (U := U.calling g mk a) (Vm.Alike.refl U.vm) qK, qD⟩, va_recv hK hP (ci := 1) (q0 := 0) rfl rfl, fun U hU hW => ⟨rfl, by rw [hU], by rw [hU]; exact hP, va_K.moved hW.alike hK, hD.weaken (fun _ _ _ _ => trivial)⟩⟩ rfl rfl hl.1 rfl (lv_room (Nat.le_of_ble_eq_true rfl)) dM_event_75 ⟨Nat.le_of_ble_eq_true rfl, Nat.le_of_ble_eq_true rfl⟩) hS (fun q _ h => hFc q h) hFc (fun r_75 u t H1 locs ht hvm hq hB hz1 hk1 hS => ?_)
          obtain ⟨hq1, hq⟩ := hq
          have hq1 : r_75 = 0 := hq1
          subst hq1
          obtain rfl := hq
          obtain ⟨hP1, hK1, hD1⟩ := hB
          rw [ht] at hP1
          have hP : va_P (dC, dI) cls2 (mw r cI cZ (b) (va_up (g) 0 (nI (mTh false false false)))) H1 := hP1
          have hD : va_D A (mw r cI cZ (b) (va_up (g) 0 (nI (mTh false false false)))) := hD1.weaken (fun _ _ _ h => hFc _ h)
          generalize H1 = H at hP hS ⊢
          refine lv_if_eq (tgt := 83) hx hb dM_event_78 (by decide) (fun _ => ?_) (fun c9 => absurd c9 (by decide))
          refine lv_aload_n hx hb dM_event_83 rfl (lv_at hl 1 rfl) ?_
          refine va_get (D := (dC, dI)) (ci := 1) (v := .ref (r 1)) (C := "EventPatternsModel") (T := TM) (N := 16) hx hb hbw inM hown hK hP 0 rfl rfl 2 (by decide) (hbw _ kf_M_7) (fun _ h9 => h9) rfl dM_event_84 ?_
          refine lv_aload_n hx hb dM_event_87 rfl (lv_at hl 1 rfl) ?_
          refine va_get (D := (dC, dI)) (ci := 1) (v := .int (nI (ev))) (C := "EventPatternsModel") (T := TM) (N := 16) hx hb hbw inM hown hK hP 0 rfl rfl 1 (by decide) (hbw _ kf_M_45) (fun _ h9 => h9) (congrArg (fun z => some (Value.int z)) (hg1)) dM_event_88 ?_
          refine lv_iload_n hx hb dM_event_91 rfl (lv_at hl 2 rfl) ?_
          refine nr_iast hx hb hK hP hD hS 1 0 rfl rfl (j := ev) (by omega) (by decide) dM_event_92 (fun H locs hP hD hS => ?_)
          have hP : va_P (dC, dI) cls2 (mw r cI cZ (va_up (b) 0 (upd (b 0) (ev) (tm))) (va_up (g) 0 (nI (mTh false false false)))) H := hP
          have hD : va_D A (mw r cI cZ (va_up (b) 0 (upd (b 0) (ev) (tm))) (va_up (g) 0 (nI (mTh false false false)))) := hD
          refine lv_aload_n hx hb dM_event_93 rfl (lv_at hl 1 rfl) ?_
          refine va_get (D := (dC, dI)) (ci := 1) (v := .ref (r 2)) (C := "EventPatternsModel") (T := TM) (N := 16) hx hb hbw inM hown hK hP 0 rfl rfl 3 (by decide) (hbw _ kf_M_13) (fun _ h9 => h9) rfl dM_event_94 ?_
          refine lv_aload_n hx hb dM_event_97 rfl (lv_at hl 1 rfl) ?_
          refine va_get (D := (dC, dI)) (ci := 1) (v := .int (nI (ev))) (C := "EventPatternsModel") (T := TM) (N := 16) hx hb hbw inM hown hK hP 0 rfl rfl 1 (by decide) (hbw _ kf_M_45) (fun _ h9 => h9) (congrArg (fun z => some (Value.int z)) (hg1)) dM_event_98 ?_
          refine lv_iload_n hx hb dM_event_101 rfl (lv_at hl 3 rfl) ?_
          refine nr_iast hx hb hK hP hD hS 2 0 rfl rfl (j := ev) (by omega) (by decide) dM_event_102 (fun H locs hP hD hS => ?_)
          have hP : va_P (dC, dI) cls2 (mw r cI cZ (va_up (va_up (b) 0 (upd (b 0) (ev) (tm))) 1 (upd (b 1) (ev) (kd))) (va_up (g) 0 (nI (mTh false false false)))) H := hP
          have hD : va_D A (mw r cI cZ (va_up (va_up (b) 0 (upd (b 0) (ev) (tm))) 1 (upd (b 1) (ev) (kd))) (va_up (g) 0 (nI (mTh false false false)))) := hD
          refine lv_aload_n hx hb dM_event_103 rfl (lv_at hl 1 rfl) ?_
          refine va_get (D := (dC, dI)) (ci := 1) (v := .ref (r 3)) (C := "EventPatternsModel") (T := TM) (N := 16) hx hb hbw inM hown hK hP 0 rfl rfl 4 (by decide) (hbw _ kf_M_16) (fun _ h9 => h9) rfl dM_event_104 ?_
          refine lv_aload_n hx hb dM_event_107 rfl (lv_at hl 1 rfl) ?_
          refine va_get (D := (dC, dI)) (ci := 1) (v := .int (nI (ev))) (C := "EventPatternsModel") (T := TM) (N := 16) hx hb hbw inM hown hK hP 0 rfl rfl 1 (by decide) (hbw _ kf_M_45) (fun _ h9 => h9) (congrArg (fun z => some (Value.int z)) (hg1)) dM_event_108 ?_
          refine lv_iload_n hx hb dM_event_111 rfl (lv_at hl 4 rfl) ?_
          refine nr_iast hx hb hK hP hD hS 3 0 rfl rfl (j := ev) (by omega) (by decide) dM_event_112 (fun H locs hP hD hS => ?_)
          have hP : va_P (dC, dI) cls2 (mw r cI cZ (va_up (va_up (va_up (b) 0 (upd (b 0) (ev) (tm))) 1 (upd (b 1) (ev) (kd))) 2 (upd (b 2) (ev) (va))) (va_up (g) 0 (nI (mTh false false false)))) H := hP
          have hD : va_D A (mw r cI cZ (va_up (va_up (va_up (b) 0 (upd (b 0) (ev) (tm))) 1 (upd (b 1) (ev) (kd))) 2 (upd (b 2) (ev) (va))) (va_up (g) 0 (nI (mTh false false false)))) := hD
          refine lv_aload_n hx hb dM_event_113 rfl (lv_at hl 1 rfl) ?_
          refine lv_dup hx hb dM_event_114 rfl ?_
          refine va_get (D := (dC, dI)) (ci := 1) (v := .int (nI (ev))) (C := "EventPatternsModel") (T := TM) (N := 16) hx hb hbw inM hown hK hP 0 rfl rfl 1 (by decide) (hbw _ kf_M_45) (fun _ h9 => h9) (congrArg (fun z => some (Value.int z)) (hg1)) dM_event_115 ?_
          refine lv_iconst (v := 1) hx hb dM_event_118 (by decide) ?_
          refine nr_iadd hx hb (a1 := ev) (b1 := 1) dM_event_119 ?_
          refine va_put (D := (dC, dI)) (ci := 1) (v := .int (nI (ev + 1))) (ty := .int) (C := "EventPatternsModel") (T := TM) (N := 16) hx hb hbw inM tyM okM nmM hown hK hP hD hS 0 rfl rfl 1 (by decide) (hbw _ kf_M_45) (fun _ h9 => h9) rfl (by decide +kernel) rfl rfl (Nat.le_of_ble_eq_true rfl) dM_event_120 (fun H locs hP hD hS => ?_)
          have hP : va_P (dC, dI) cls2 (mw r cI cZ (va_up (va_up (va_up (b) 0 (upd (b 0) (ev) (tm))) 1 (upd (b 1) (ev) (kd))) 2 (upd (b 2) (ev) (va))) (va_up (va_up (g) 0 (nI (mTh false false false))) 1 (nI (ev + 1)))) H := hP
          have hD : va_D A (mw r cI cZ (va_up (va_up (va_up (b) 0 (upd (b 0) (ev) (tm))) 1 (upd (b 1) (ev) (kd))) 2 (upd (b 2) (ev) (va))) (va_up (va_up (g) 0 (nI (mTh false false false))) 1 (nI (ev + 1)))) := hD
          refine lv_aload_n hx hb dM_event_123 rfl (lv_at hl 1 rfl) ?_
          refine va_get (D := (dC, dI)) (ci := 1) (v := .int (nI (ev + 1))) (C := "EventPatternsModel") (T := TM) (N := 16) hx hb hbw inM hown hK hP 0 rfl rfl 1 (by decide) (hbw _ kf_M_45) (fun _ h9 => h9) rfl dM_event_124 ?_
          refine lv_iconst (v := 1) hx hb dM_event_127 (by decide) ?_
          refine nr_isub hx hb (a1 := ev + 1) (b1 := 1) (by omega) dM_event_128 ?_
          have hT : mEvT b ev tm kd = 0 := by first | (rw [mEvT, c_28, c_38, decide_eq_true c_66]; rfl) | (rw [mEvT, c_28, c_38, decide_eq_false c_66]; rfl) | (rw [mEvT, c_28, decide_eq_true c_66]; rfl) | (rw [mEvT, c_28, decide_eq_false c_66]; rfl)
          exact W.iret (v := nI ((ev + 1) - 1)) hx hb hr (fun t ht hW => ⟨⟨nI ((ev + 1) - 1), (mEvB b ev tm kd va, va_up (va_up g 0 (nI (mTh false false false))) 1 (nI (ev + 1))), rfl, ⟨fun _ => ⟨by rw [Nat.add_sub_cancel], rfl⟩, fun h9 => absurd hT h9⟩, by rw [ht]; exact hP, va_K.moved hW.alike hK, hD⟩, hS.F ht⟩) hS.2.2 dM_event_129
        · refine lv_iconst (v := 1) hx hb dM_event_69 (by decide) ?_
          refine lv_goto (tgt := 74) hx hb dM_event_70 (by decide) ?_
          refine lv_iconst (v := 0) hx hb dM_event_74 (by decide) ?_
          have hFc := va_free (wc := mw r cI cZ (b) (g)) hD hS hA (List.range 11) rfl
          refine va_calli (va_runV (As := [.int (0), .int (1), .int (0)]) (rest := []) ⟨hx, hb, hml, hown, hbw⟩ (tM_refuse l dC dI r cI cZ cG (b) (g) s.heap.size false true false) (cwV 3 hbw (bw_V km_M_53 ki_yM_refuse ksel_yM_refuse ki_EventPatternsModel kcM_refuse) rfl rfl rfl (by decide +kernel) ⟨Nat.le_of_ble_eq_true rfl, Nat.le_of_ble_eq_true rfl⟩) ⟨fun a U g mk q => by obtain ⟨q0, q1, qP, qK, qD⟩ := q; exact ⟨q0, q1, qP, va_K.moved (u := U) (U := U.calling g mk a) (Vm.Alike.refl U.vm) qK, qD⟩, va_recv hK hP (ci := 1) (q0 := 0) rfl rfl, fun U hU hW => ⟨rfl, by rw [hU], by rw [hU]; exact hP, va_K.moved hW.alike hK, hD.weaken (fun _ _ _ _ => trivial)⟩⟩ rfl rfl hl.1 rfl (lv_room (Nat.le_of_ble_eq_true rfl)) dM_event_75 ⟨Nat.le_of_ble_eq_true rfl, Nat.le_of_ble_eq_true rfl⟩) hS (fun q _ h => hFc q h) hFc (fun r_75 u t H1 locs ht hvm hq hB hz1 hk1 hS => ?_)
          obtain ⟨hq1, hq⟩ := hq
          have hq1 : r_75 = 1 := hq1
          subst hq1
          obtain rfl := hq
          obtain ⟨hP1, hK1, hD1⟩ := hB
          rw [ht] at hP1
          have hP : va_P (dC, dI) cls2 (mw r cI cZ (b) (va_up (g) 0 (nI (mTh false true false)))) H1 := hP1
          have hD : va_D A (mw r cI cZ (b) (va_up (g) 0 (nI (mTh false true false)))) := hD1.weaken (fun _ _ _ h => hFc _ h)
          generalize H1 = H at hP hS ⊢
          refine lv_if_eq (tgt := 83) hx hb dM_event_78 (by decide) (fun c9 => absurd c9 (by decide)) (fun _ => ?_)
          refine lv_iconst (v := 0) hx hb dM_event_81 (by decide) ?_
          have hT : mEvT b ev tm kd = mTh false true false := by first | (rw [mEvT, c_28, c_38, decide_eq_true c_66]; rfl) | (rw [mEvT, c_28, c_38, decide_eq_false c_66]; rfl) | (rw [mEvT, c_28, decide_eq_true c_66]; rfl) | (rw [mEvT, c_28, decide_eq_false c_66]; rfl)
          rw [← hT] at hP hD
          exact W.iret (v := 0) hx hb hr (fun t ht hW => ⟨⟨0, (b, va_up g 0 (nI (mEvT b ev tm kd))), rfl, ⟨fun h9 => absurd h9 (by rw [hT]; decide), fun _ => rfl⟩, by rw [ht]; exact hP, va_K.moved hW.alike hK, hD⟩, hS.F ht⟩) hS.2.2 dM_event_82
  · refine lv_aload_n hx hb dM_event_8 rfl (lv_at hl 0 rfl) ?_
    refine va_get (D := (dC, dI)) (ci := 1) (v := .ref (r 1)) (C := "EventPatternsModel") (T := TM) (N := 16) hx hb hbw inM hown hK hP 0 rfl rfl 2 (by decide) (hbw _ kf_M_7) (fun _ h9 => h9) rfl dM_event_9 ?_
    refine lv_aload_n hx hb dM_event_12 rfl (lv_at hl 0 rfl) ?_
    refine va_get (D := (dC, dI)) (ci := 1) (v := .int (nI (ev))) (C := "EventPatternsModel") (T := TM) (N := 16) hx hb hbw inM hown hK hP 0 rfl rfl 1 (by decide) (hbw _ kf_M_45) (fun _ h9 => h9) (congrArg (fun z => some (Value.int z)) (hg1)) dM_event_13 ?_
    refine lv_iconst (v := 1) hx hb dM_event_16 (by decide) ?_
    refine nr_isub hx hb (a1 := ev) (b1 := 1) (by omega) dM_event_17 ?_
    refine nr_iald hx hb hK hP 1 0 rfl rfl (j := ev - 1) (by omega) (by decide) dM_event_18 ?_
    refine lv_goto (tgt := 23) hx hb dM_event_19 (by decide) ?_
    refine W.eq (g2 := F0 m 23 ls [.int (mLate b ev), .int (tm)]) (by first | rw [mLate, if_pos (by omega)] | rw [mLate, if_neg (by omega)]) ?_
    refine lv_ldc (v := 1000000) hx hb hown (hbw _ kk_M_48) dM_event_23 ?_
    refine vp_callSi (W.runS (As := [.int (tm), .int (mLate b ev), .int (1000000)]) (rest := []) ⟨hx, hb, hml, hown, hbw⟩ (tM_in l (tm) (mLate b ev) (1000000)) (cwS 3 hbw (bw_S km_M_49 ks_yM_in ki_EventPatternsModel kcM_in) rfl rfl rfl (by decide +kernel) ⟨Nat.le_of_ble_eq_true rfl, Nat.le_of_ble_eq_true rfl⟩) ⟨fun a U g mk q => q, fun U hU hW => ⟨rfl, trivial⟩⟩ rfl rfl hl.1 rfl (lv_room (Nat.le_of_ble_eq_true rfl)) dM_event_25 ⟨Nat.le_of_ble_eq_true rfl, Nat.le_of_ble_eq_true rfl⟩) (fun r_25 hq => ?_)
    subst hq
    refine nr_ifb_eq (tgt := 45) hx hb (b := (iIn (tm) (mLate b ev) (1000000))) dM_event_28 (by decide) (fun c_28 => ?_) (fun c_28 => ?_)
    · refine lv_iconst (v := 0) hx hb dM_event_45 (by decide) ?_
      refine lv_istore (lv' := [(4, .int (0)), (0, .ref (r 0)), (1, .int (tm)), (2, .int (kd)), (3, .int (va))]) hx hb dM_event_46 hl (by decide) rfl (fun ls hl => ?_)
      refine lv_aload_n hx hb dM_event_48 rfl (lv_at hl 1 rfl) ?_
      refine lv_iload hx hb dM_event_49 (lv_at hl 0 rfl) ?_
      refine lv_if_ne (tgt := 58) hx hb dM_event_51 (by decide) (fun c9 => absurd c9 (by decide)) (fun _ => ?_)
      refine lv_iconst (v := 1) hx hb dM_event_54 (by decide) ?_
      refine lv_goto (tgt := 59) hx hb dM_event_55 (by decide) ?_
      refine lv_aload_n hx hb dM_event_59 rfl (lv_at hl 1 rfl) ?_
      refine va_get (D := (dC, dI)) (ci := 1) (v := .int (nI (ev))) (C := "EventPatternsModel") (T := TM) (N := 16) hx hb hbw inM hown hK hP 0 rfl rfl 1 (by decide) (hbw _ kf_M_45) (fun _ h9 => h9) (congrArg (fun z => some (Value.int z)) (hg1)) dM_event_60 ?_
      refine lv_sipush (v := 400) hx hb dM_event_63 (by decide) ?_
      refine nr_icmp_ne (tgt := 73) hx hb (a1 := ev) (b1 := 400) (by omega) (by omega) dM_event_66 (by decide) (fun c_66 => ?_) (fun c_66 => ?_)
      · refine lv_iconst (v := 0) hx hb dM_event_73 (by decide) ?_
        refine lv_iconst (v := 0) hx hb dM_event_74 (by decide) ?_
        have hFc := va_free (wc := mw r cI cZ (b) (g)) hD hS hA (List.range 11) rfl
        refine va_calli (va_runV (As := [.int (1), .int (0), .int (0)]) (rest := []) ⟨hx, hb, hml, hown, hbw⟩ (tM_refuse l dC dI r cI cZ cG (b) (g) s.heap.size true false false) (cwV 3 hbw (bw_V km_M_53 ki_yM_refuse ksel_yM_refuse ki_EventPatternsModel kcM_refuse) rfl rfl rfl (by decide +kernel) ⟨Nat.le_of_ble_eq_true rfl, Nat.le_of_ble_eq_true rfl⟩) ⟨fun a U g mk q => by obtain ⟨q0, q1, qP, qK, qD⟩ := q; exact ⟨q0, q1, qP, va_K.moved (u := U) (U := U.calling g mk a) (Vm.Alike.refl U.vm) qK, qD⟩, va_recv hK hP (ci := 1) (q0 := 0) rfl rfl, fun U hU hW => ⟨rfl, by rw [hU], by rw [hU]; exact hP, va_K.moved hW.alike hK, hD.weaken (fun _ _ _ _ => trivial)⟩⟩ rfl rfl hl.1 rfl (lv_room (Nat.le_of_ble_eq_true rfl)) dM_event_75 ⟨Nat.le_of_ble_eq_true rfl, Nat.le_of_ble_eq_true rfl⟩) hS (fun q _ h => hFc q h) hFc (fun r_75 u t H1 locs ht hvm hq hB hz1 hk1 hS => ?_)
        obtain ⟨hq1, hq⟩ := hq
        have hq1 : r_75 = 1 := hq1
        subst hq1
        obtain rfl := hq
        obtain ⟨hP1, hK1, hD1⟩ := hB
        rw [ht] at hP1
        have hP : va_P (dC, dI) cls2 (mw r cI cZ (b) (va_up (g) 0 (nI (mTh true false false)))) H1 := hP1
        have hD : va_D A (mw r cI cZ (b) (va_up (g) 0 (nI (mTh true false false)))) := hD1.weaken (fun _ _ _ h => hFc _ h)
        generalize H1 = H at hP hS ⊢
        refine lv_if_eq (tgt := 83) hx hb dM_event_78 (by decide) (fun c9 => absurd c9 (by decide)) (fun _ => ?_)
        refine lv_iconst (v := 0) hx hb dM_event_81 (by decide) ?_
        have hT : mEvT b ev tm kd = mTh true false false := by first | (rw [mEvT, c_28, c_38, decide_eq_true c_66]; rfl) | (rw [mEvT, c_28, c_38, decide_eq_false c_66]; rfl) | (rw [mEvT, c_28, decide_eq_true c_66]; rfl) | (rw [mEvT, c_28, decide_eq_false c_66]; rfl)
        rw [← hT] at hP hD
        exact W.iret (v := 0) hx hb hr (fun t ht hW => ⟨⟨0, (b, va_up g 0 (nI (mEvT b ev tm kd))), rfl, ⟨fun h9 => absurd h9 (by rw [hT]; decide), fun _ => rfl⟩, by rw [ht]; exact hP, va_K.moved hW.alike hK, hD⟩, hS.F ht⟩) hS.2.2 dM_event_82
      · refine lv_iconst (v := 1) hx hb dM_event_69 (by decide) ?_
        refine lv_goto (tgt := 74) hx hb dM_event_70 (by decide) ?_
        refine lv_iconst (v := 0) hx hb dM_event_74 (by decide) ?_
        have hFc := va_free (wc := mw r cI cZ (b) (g)) hD hS hA (List.range 11) rfl
        refine va_calli (va_runV (As := [.int (1), .int (1), .int (0)]) (rest := []) ⟨hx, hb, hml, hown, hbw⟩ (tM_refuse l dC dI r cI cZ cG (b) (g) s.heap.size true true false) (cwV 3 hbw (bw_V km_M_53 ki_yM_refuse ksel_yM_refuse ki_EventPatternsModel kcM_refuse) rfl rfl rfl (by decide +kernel) ⟨Nat.le_of_ble_eq_true rfl, Nat.le_of_ble_eq_true rfl⟩) ⟨fun a U g mk q => by obtain ⟨q0, q1, qP, qK, qD⟩ := q; exact ⟨q0, q1, qP, va_K.moved (u := U) (U := U.calling g mk a) (Vm.Alike.refl U.vm) qK, qD⟩, va_recv hK hP (ci := 1) (q0 := 0) rfl rfl, fun U hU hW => ⟨rfl, by rw [hU], by rw [hU]; exact hP, va_K.moved hW.alike hK, hD.weaken (fun _ _ _ _ => trivial)⟩⟩ rfl rfl hl.1 rfl (lv_room (Nat.le_of_ble_eq_true rfl)) dM_event_75 ⟨Nat.le_of_ble_eq_true rfl, Nat.le_of_ble_eq_true rfl⟩) hS (fun q _ h => hFc q h) hFc (fun r_75 u t H1 locs ht hvm hq hB hz1 hk1 hS => ?_)
        obtain ⟨hq1, hq⟩ := hq
        have hq1 : r_75 = 1 := hq1
        subst hq1
        obtain rfl := hq
        obtain ⟨hP1, hK1, hD1⟩ := hB
        rw [ht] at hP1
        have hP : va_P (dC, dI) cls2 (mw r cI cZ (b) (va_up (g) 0 (nI (mTh true true false)))) H1 := hP1
        have hD : va_D A (mw r cI cZ (b) (va_up (g) 0 (nI (mTh true true false)))) := hD1.weaken (fun _ _ _ h => hFc _ h)
        generalize H1 = H at hP hS ⊢
        refine lv_if_eq (tgt := 83) hx hb dM_event_78 (by decide) (fun c9 => absurd c9 (by decide)) (fun _ => ?_)
        refine lv_iconst (v := 0) hx hb dM_event_81 (by decide) ?_
        have hT : mEvT b ev tm kd = mTh true true false := by first | (rw [mEvT, c_28, c_38, decide_eq_true c_66]; rfl) | (rw [mEvT, c_28, c_38, decide_eq_false c_66]; rfl) | (rw [mEvT, c_28, decide_eq_true c_66]; rfl) | (rw [mEvT, c_28, decide_eq_false c_66]; rfl)
        rw [← hT] at hP hD
        exact W.iret (v := 0) hx hb hr (fun t ht hW => ⟨⟨0, (b, va_up g 0 (nI (mEvT b ev tm kd))), rfl, ⟨fun h9 => absurd h9 (by rw [hT]; decide), fun _ => rfl⟩, by rw [ht]; exact hP, va_K.moved hW.alike hK, hD⟩, hS.F ht⟩) hS.2.2 dM_event_82
    · refine lv_iload_n hx hb dM_event_31 rfl (lv_at hl 2 rfl) ?_
      refine lv_iconst (v := 0) hx hb dM_event_32 (by decide) ?_
      refine lv_bipush (v := 7) hx hb dM_event_33 (by decide) ?_
      refine vp_callSi (W.runS (As := [.int (kd), .int (0), .int (7)]) (rest := []) ⟨hx, hb, hml, hown, hbw⟩ (tM_in l (kd) (0) (7)) (cwS 3 hbw (bw_S km_M_49 ks_yM_in ki_EventPatternsModel kcM_in) rfl rfl rfl (by decide +kernel) ⟨Nat.le_of_ble_eq_true rfl, Nat.le_of_ble_eq_true rfl⟩) ⟨fun a U g mk q => q, fun U hU hW => ⟨rfl, trivial⟩⟩ rfl rfl hl.1 rfl (lv_room (Nat.le_of_ble_eq_true rfl)) dM_event_35 ⟨Nat.le_of_ble_eq_true rfl, Nat.le_of_ble_eq_true rfl⟩) (fun r_35 hq => ?_)
      subst hq
      refine nr_ifb_eq (tgt := 45) hx hb (b := (iIn (kd) (0) (7))) dM_event_38 (by decide) (fun c_38 => ?_) (fun c_38 => ?_)
      · refine lv_iconst (v := 0) hx hb dM_event_45 (by decide) ?_
        refine lv_istore (lv' := [(4, .int (0)), (0, .ref (r 0)), (1, .int (tm)), (2, .int (kd)), (3, .int (va))]) hx hb dM_event_46 hl (by decide) rfl (fun ls hl => ?_)
        refine lv_aload_n hx hb dM_event_48 rfl (lv_at hl 1 rfl) ?_
        refine lv_iload hx hb dM_event_49 (lv_at hl 0 rfl) ?_
        refine lv_if_ne (tgt := 58) hx hb dM_event_51 (by decide) (fun c9 => absurd c9 (by decide)) (fun _ => ?_)
        refine lv_iconst (v := 1) hx hb dM_event_54 (by decide) ?_
        refine lv_goto (tgt := 59) hx hb dM_event_55 (by decide) ?_
        refine lv_aload_n hx hb dM_event_59 rfl (lv_at hl 1 rfl) ?_
        refine va_get (D := (dC, dI)) (ci := 1) (v := .int (nI (ev))) (C := "EventPatternsModel") (T := TM) (N := 16) hx hb hbw inM hown hK hP 0 rfl rfl 1 (by decide) (hbw _ kf_M_45) (fun _ h9 => h9) (congrArg (fun z => some (Value.int z)) (hg1)) dM_event_60 ?_
        refine lv_sipush (v := 400) hx hb dM_event_63 (by decide) ?_
        refine nr_icmp_ne (tgt := 73) hx hb (a1 := ev) (b1 := 400) (by omega) (by omega) dM_event_66 (by decide) (fun c_66 => ?_) (fun c_66 => ?_)
        · refine lv_iconst (v := 0) hx hb dM_event_73 (by decide) ?_
          refine lv_iconst (v := 0) hx hb dM_event_74 (by decide) ?_
          have hFc := va_free (wc := mw r cI cZ (b) (g)) hD hS hA (List.range 11) rfl
          refine va_calli (va_runV (As := [.int (1), .int (0), .int (0)]) (rest := []) ⟨hx, hb, hml, hown, hbw⟩ (tM_refuse l dC dI r cI cZ cG (b) (g) s.heap.size true false false) (cwV 3 hbw (bw_V km_M_53 ki_yM_refuse ksel_yM_refuse ki_EventPatternsModel kcM_refuse) rfl rfl rfl (by decide +kernel) ⟨Nat.le_of_ble_eq_true rfl, Nat.le_of_ble_eq_true rfl⟩) ⟨fun a U g mk q => by obtain ⟨q0, q1, qP, qK, qD⟩ := q; exact ⟨q0, q1, qP, va_K.moved (u := U) (U := U.calling g mk a) (Vm.Alike.refl U.vm) qK, qD⟩, va_recv hK hP (ci := 1) (q0 := 0) rfl rfl, fun U hU hW => ⟨rfl, by rw [hU], by rw [hU]; exact hP, va_K.moved hW.alike hK, hD.weaken (fun _ _ _ _ => trivial)⟩⟩ rfl rfl hl.1 rfl (lv_room (Nat.le_of_ble_eq_true rfl)) dM_event_75 ⟨Nat.le_of_ble_eq_true rfl, Nat.le_of_ble_eq_true rfl⟩) hS (fun q _ h => hFc q h) hFc (fun r_75 u t H1 locs ht hvm hq hB hz1 hk1 hS => ?_)
          obtain ⟨hq1, hq⟩ := hq
          have hq1 : r_75 = 1 := hq1
          subst hq1
          obtain rfl := hq
          obtain ⟨hP1, hK1, hD1⟩ := hB
          rw [ht] at hP1
          have hP : va_P (dC, dI) cls2 (mw r cI cZ (b) (va_up (g) 0 (nI (mTh true false false)))) H1 := hP1
          have hD : va_D A (mw r cI cZ (b) (va_up (g) 0 (nI (mTh true false false)))) := hD1.weaken (fun _ _ _ h => hFc _ h)
          generalize H1 = H at hP hS ⊢
          refine lv_if_eq (tgt := 83) hx hb dM_event_78 (by decide) (fun c9 => absurd c9 (by decide)) (fun _ => ?_)
          refine lv_iconst (v := 0) hx hb dM_event_81 (by decide) ?_
          have hT : mEvT b ev tm kd = mTh true false false := by first | (rw [mEvT, c_28, c_38, decide_eq_true c_66]; rfl) | (rw [mEvT, c_28, c_38, decide_eq_false c_66]; rfl) | (rw [mEvT, c_28, decide_eq_true c_66]; rfl) | (rw [mEvT, c_28, decide_eq_false c_66]; rfl)
          rw [← hT] at hP hD
          exact W.iret (v := 0) hx hb hr (fun t ht hW => ⟨⟨0, (b, va_up g 0 (nI (mEvT b ev tm kd))), rfl, ⟨fun h9 => absurd h9 (by rw [hT]; decide), fun _ => rfl⟩, by rw [ht]; exact hP, va_K.moved hW.alike hK, hD⟩, hS.F ht⟩) hS.2.2 dM_event_82
        · refine lv_iconst (v := 1) hx hb dM_event_69 (by decide) ?_
          refine lv_goto (tgt := 74) hx hb dM_event_70 (by decide) ?_
          refine lv_iconst (v := 0) hx hb dM_event_74 (by decide) ?_
          have hFc := va_free (wc := mw r cI cZ (b) (g)) hD hS hA (List.range 11) rfl
          refine va_calli (va_runV (As := [.int (1), .int (1), .int (0)]) (rest := []) ⟨hx, hb, hml, hown, hbw⟩ (tM_refuse l dC dI r cI cZ cG (b) (g) s.heap.size true true false) (cwV 3 hbw (bw_V km_M_53 ki_yM_refuse ksel_yM_refuse ki_EventPatternsModel kcM_refuse) rfl rfl rfl (by decide +kernel) ⟨Nat.le_of_ble_eq_true rfl, Nat.le_of_ble_eq_true rfl⟩) ⟨fun a U g mk q => by obtain ⟨q0, q1, qP, qK, qD⟩ := q; exact ⟨q0, q1, qP, va_K.moved (u := U) (U := U.calling g mk a) (Vm.Alike.refl U.vm) qK, qD⟩, va_recv hK hP (ci := 1) (q0 := 0) rfl rfl, fun U hU hW => ⟨rfl, by rw [hU], by rw [hU]; exact hP, va_K.moved hW.alike hK, hD.weaken (fun _ _ _ _ => trivial)⟩⟩ rfl rfl hl.1 rfl (lv_room (Nat.le_of_ble_eq_true rfl)) dM_event_75 ⟨Nat.le_of_ble_eq_true rfl, Nat.le_of_ble_eq_true rfl⟩) hS (fun q _ h => hFc q h) hFc (fun r_75 u t H1 locs ht hvm hq hB hz1 hk1 hS => ?_)
          obtain ⟨hq1, hq⟩ := hq
          have hq1 : r_75 = 1 := hq1
          subst hq1
          obtain rfl := hq
          obtain ⟨hP1, hK1, hD1⟩ := hB
          rw [ht] at hP1
          have hP : va_P (dC, dI) cls2 (mw r cI cZ (b) (va_up (g) 0 (nI (mTh true true false)))) H1 := hP1
          have hD : va_D A (mw r cI cZ (b) (va_up (g) 0 (nI (mTh true true false)))) := hD1.weaken (fun _ _ _ h => hFc _ h)
          generalize H1 = H at hP hS ⊢
          refine lv_if_eq (tgt := 83) hx hb dM_event_78 (by decide) (fun c9 => absurd c9 (by decide)) (fun _ => ?_)
          refine lv_iconst (v := 0) hx hb dM_event_81 (by decide) ?_
          have hT : mEvT b ev tm kd = mTh true true false := by first | (rw [mEvT, c_28, c_38, decide_eq_true c_66]; rfl) | (rw [mEvT, c_28, c_38, decide_eq_false c_66]; rfl) | (rw [mEvT, c_28, decide_eq_true c_66]; rfl) | (rw [mEvT, c_28, decide_eq_false c_66]; rfl)
          rw [← hT] at hP hD
          exact W.iret (v := 0) hx hb hr (fun t ht hW => ⟨⟨0, (b, va_up g 0 (nI (mEvT b ev tm kd))), rfl, ⟨fun h9 => absurd h9 (by rw [hT]; decide), fun _ => rfl⟩, by rw [ht]; exact hP, va_K.moved hW.alike hK, hD⟩, hS.F ht⟩) hS.2.2 dM_event_82
      · refine lv_iconst (v := 1) hx hb dM_event_41 (by decide) ?_
        refine lv_goto (tgt := 46) hx hb dM_event_42 (by decide) ?_
        refine lv_istore (lv' := [(4, .int (1)), (0, .ref (r 0)), (1, .int (tm)), (2, .int (kd)), (3, .int (va))]) hx hb dM_event_46 hl (by decide) rfl (fun ls hl => ?_)
        refine lv_aload_n hx hb dM_event_48 rfl (lv_at hl 1 rfl) ?_
        refine lv_iload hx hb dM_event_49 (lv_at hl 0 rfl) ?_
        refine lv_if_ne (tgt := 58) hx hb dM_event_51 (by decide) (fun _ => ?_) (fun c9 => absurd c9 (by decide))
        refine lv_iconst (v := 0) hx hb dM_event_58 (by decide) ?_
        refine lv_aload_n hx hb dM_event_59 rfl (lv_at hl 1 rfl) ?_
        refine va_get (D := (dC, dI)) (ci := 1) (v := .int (nI (ev))) (C := "EventPatternsModel") (T := TM) (N := 16) hx hb hbw inM hown hK hP 0 rfl rfl 1 (by decide) (hbw _ kf_M_45) (fun _ h9 => h9) (congrArg (fun z => some (Value.int z)) (hg1)) dM_event_60 ?_
        refine lv_sipush (v := 400) hx hb dM_event_63 (by decide) ?_
        refine nr_icmp_ne (tgt := 73) hx hb (a1 := ev) (b1 := 400) (by omega) (by omega) dM_event_66 (by decide) (fun c_66 => ?_) (fun c_66 => ?_)
        · refine lv_iconst (v := 0) hx hb dM_event_73 (by decide) ?_
          refine lv_iconst (v := 0) hx hb dM_event_74 (by decide) ?_
          have hFc := va_free (wc := mw r cI cZ (b) (g)) hD hS hA (List.range 11) rfl
          refine va_calli (va_runV (As := [.int (0), .int (0), .int (0)]) (rest := []) ⟨hx, hb, hml, hown, hbw⟩ (tM_refuse l dC dI r cI cZ cG (b) (g) s.heap.size false false false) (cwV 3 hbw (bw_V km_M_53 ki_yM_refuse ksel_yM_refuse ki_EventPatternsModel kcM_refuse) rfl rfl rfl (by decide +kernel) ⟨Nat.le_of_ble_eq_true rfl, Nat.le_of_ble_eq_true rfl⟩) ⟨fun a U g mk q => by obtain ⟨q0, q1, qP, qK, qD⟩ := q; exact ⟨q0, q1, qP, va_K.moved (u := U) (U := U.calling g mk a) (Vm.Alike.refl U.vm) qK, qD⟩, va_recv hK hP (ci := 1) (q0 := 0) rfl rfl, fun U hU hW => ⟨rfl, by rw [hU], by rw [hU]; exact hP, va_K.moved hW.alike hK, hD.weaken (fun _ _ _ _ => trivial)⟩⟩ rfl rfl hl.1 rfl (lv_room (Nat.le_of_ble_eq_true rfl)) dM_event_75 ⟨Nat.le_of_ble_eq_true rfl, Nat.le_of_ble_eq_true rfl⟩) hS (fun q _ h => hFc q h) hFc (fun r_75 u t H1 locs ht hvm hq hB hz1 hk1 hS => ?_)
          obtain ⟨hq1, hq⟩ := hq
          have hq1 : r_75 = 0 := hq1
          subst hq1
          obtain rfl := hq
          obtain ⟨hP1, hK1, hD1⟩ := hB
          rw [ht] at hP1
          have hP : va_P (dC, dI) cls2 (mw r cI cZ (b) (va_up (g) 0 (nI (mTh false false false)))) H1 := hP1
          have hD : va_D A (mw r cI cZ (b) (va_up (g) 0 (nI (mTh false false false)))) := hD1.weaken (fun _ _ _ h => hFc _ h)
          generalize H1 = H at hP hS ⊢
          refine lv_if_eq (tgt := 83) hx hb dM_event_78 (by decide) (fun _ => ?_) (fun c9 => absurd c9 (by decide))
          refine lv_aload_n hx hb dM_event_83 rfl (lv_at hl 1 rfl) ?_
          refine va_get (D := (dC, dI)) (ci := 1) (v := .ref (r 1)) (C := "EventPatternsModel") (T := TM) (N := 16) hx hb hbw inM hown hK hP 0 rfl rfl 2 (by decide) (hbw _ kf_M_7) (fun _ h9 => h9) rfl dM_event_84 ?_
          refine lv_aload_n hx hb dM_event_87 rfl (lv_at hl 1 rfl) ?_
          refine va_get (D := (dC, dI)) (ci := 1) (v := .int (nI (ev))) (C := "EventPatternsModel") (T := TM) (N := 16) hx hb hbw inM hown hK hP 0 rfl rfl 1 (by decide) (hbw _ kf_M_45) (fun _ h9 => h9) (congrArg (fun z => some (Value.int z)) (hg1)) dM_event_88 ?_
          refine lv_iload_n hx hb dM_event_91 rfl (lv_at hl 2 rfl) ?_
          refine nr_iast hx hb hK hP hD hS 1 0 rfl rfl (j := ev) (by omega) (by decide) dM_event_92 (fun H locs hP hD hS => ?_)
          have hP : va_P (dC, dI) cls2 (mw r cI cZ (va_up (b) 0 (upd (b 0) (ev) (tm))) (va_up (g) 0 (nI (mTh false false false)))) H := hP
          have hD : va_D A (mw r cI cZ (va_up (b) 0 (upd (b 0) (ev) (tm))) (va_up (g) 0 (nI (mTh false false false)))) := hD
          refine lv_aload_n hx hb dM_event_93 rfl (lv_at hl 1 rfl) ?_
          refine va_get (D := (dC, dI)) (ci := 1) (v := .ref (r 2)) (C := "EventPatternsModel") (T := TM) (N := 16) hx hb hbw inM hown hK hP 0 rfl rfl 3 (by decide) (hbw _ kf_M_13) (fun _ h9 => h9) rfl dM_event_94 ?_
          refine lv_aload_n hx hb dM_event_97 rfl (lv_at hl 1 rfl) ?_
          refine va_get (D := (dC, dI)) (ci := 1) (v := .int (nI (ev))) (C := "EventPatternsModel") (T := TM) (N := 16) hx hb hbw inM hown hK hP 0 rfl rfl 1 (by decide) (hbw _ kf_M_45) (fun _ h9 => h9) (congrArg (fun z => some (Value.int z)) (hg1)) dM_event_98 ?_
          refine lv_iload_n hx hb dM_event_101 rfl (lv_at hl 3 rfl) ?_
          refine nr_iast hx hb hK hP hD hS 2 0 rfl rfl (j := ev) (by omega) (by decide) dM_event_102 (fun H locs hP hD hS => ?_)
          have hP : va_P (dC, dI) cls2 (mw r cI cZ (va_up (va_up (b) 0 (upd (b 0) (ev) (tm))) 1 (upd (b 1) (ev) (kd))) (va_up (g) 0 (nI (mTh false false false)))) H := hP
          have hD : va_D A (mw r cI cZ (va_up (va_up (b) 0 (upd (b 0) (ev) (tm))) 1 (upd (b 1) (ev) (kd))) (va_up (g) 0 (nI (mTh false false false)))) := hD
          refine lv_aload_n hx hb dM_event_103 rfl (lv_at hl 1 rfl) ?_
          refine va_get (D := (dC, dI)) (ci := 1) (v := .ref (r 3)) (C := "EventPatternsModel") (T := TM) (N := 16) hx hb hbw inM hown hK hP 0 rfl rfl 4 (by decide) (hbw _ kf_M_16) (fun _ h9 => h9) rfl dM_event_104 ?_
          refine lv_aload_n hx hb dM_event_107 rfl (lv_at hl 1 rfl) ?_
          refine va_get (D := (dC, dI)) (ci := 1) (v := .int (nI (ev))) (C := "EventPatternsModel") (T := TM) (N := 16) hx hb hbw inM hown hK hP 0 rfl rfl 1 (by decide) (hbw _ kf_M_45) (fun _ h9 => h9) (congrArg (fun z => some (Value.int z)) (hg1)) dM_event_108 ?_
          refine lv_iload_n hx hb dM_event_111 rfl (lv_at hl 4 rfl) ?_
          refine nr_iast hx hb hK hP hD hS 3 0 rfl rfl (j := ev) (by omega) (by decide) dM_event_112 (fun H locs hP hD hS => ?_)
          have hP : va_P (dC, dI) cls2 (mw r cI cZ (va_up (va_up (va_up (b) 0 (upd (b 0) (ev) (tm))) 1 (upd (b 1) (ev) (kd))) 2 (upd (b 2) (ev) (va))) (va_up (g) 0 (nI (mTh false false false)))) H := hP
          have hD : va_D A (mw r cI cZ (va_up (va_up (va_up (b) 0 (upd (b 0) (ev) (tm))) 1 (upd (b 1) (ev) (kd))) 2 (upd (b 2) (ev) (va))) (va_up (g) 0 (nI (mTh false false false)))) := hD
          refine lv_aload_n hx hb dM_event_113 rfl (lv_at hl 1 rfl) ?_
          refine lv_dup hx hb dM_event_114 rfl ?_
          refine va_get (D := (dC, dI)) (ci := 1) (v := .int (nI (ev))) (C := "EventPatternsModel") (T := TM) (N := 16) hx hb hbw inM hown hK hP 0 rfl rfl 1 (by decide) (hbw _ kf_M_45) (fun _ h9 => h9) (congrArg (fun z => some (Value.int z)) (hg1)) dM_event_115 ?_
          refine lv_iconst (v := 1) hx hb dM_event_118 (by decide) ?_
          refine nr_iadd hx hb (a1 := ev) (b1 := 1) dM_event_119 ?_
          refine va_put (D := (dC, dI)) (ci := 1) (v := .int (nI (ev + 1))) (ty := .int) (C := "EventPatternsModel") (T := TM) (N := 16) hx hb hbw inM tyM okM nmM hown hK hP hD hS 0 rfl rfl 1 (by decide) (hbw _ kf_M_45) (fun _ h9 => h9) rfl (by decide +kernel) rfl rfl (Nat.le_of_ble_eq_true rfl) dM_event_120 (fun H locs hP hD hS => ?_)
          have hP : va_P (dC, dI) cls2 (mw r cI cZ (va_up (va_up (va_up (b) 0 (upd (b 0) (ev) (tm))) 1 (upd (b 1) (ev) (kd))) 2 (upd (b 2) (ev) (va))) (va_up (va_up (g) 0 (nI (mTh false false false))) 1 (nI (ev + 1)))) H := hP
          have hD : va_D A (mw r cI cZ (va_up (va_up (va_up (b) 0 (upd (b 0) (ev) (tm))) 1 (upd (b 1) (ev) (kd))) 2 (upd (b 2) (ev) (va))) (va_up (va_up (g) 0 (nI (mTh false false false))) 1 (nI (ev + 1)))) := hD
          refine lv_aload_n hx hb dM_event_123 rfl (lv_at hl 1 rfl) ?_
          refine va_get (D := (dC, dI)) (ci := 1) (v := .int (nI (ev + 1))) (C := "EventPatternsModel") (T := TM) (N := 16) hx hb hbw inM hown hK hP 0 rfl rfl 1 (by decide) (hbw _ kf_M_45) (fun _ h9 => h9) rfl dM_event_124 ?_
          refine lv_iconst (v := 1) hx hb dM_event_127 (by decide) ?_
          refine nr_isub hx hb (a1 := ev + 1) (b1 := 1) (by omega) dM_event_128 ?_
          have hT : mEvT b ev tm kd = 0 := by first | (rw [mEvT, c_28, c_38, decide_eq_true c_66]; rfl) | (rw [mEvT, c_28, c_38, decide_eq_false c_66]; rfl) | (rw [mEvT, c_28, decide_eq_true c_66]; rfl) | (rw [mEvT, c_28, decide_eq_false c_66]; rfl)
          exact W.iret (v := nI ((ev + 1) - 1)) hx hb hr (fun t ht hW => ⟨⟨nI ((ev + 1) - 1), (mEvB b ev tm kd va, va_up (va_up g 0 (nI (mTh false false false))) 1 (nI (ev + 1))), rfl, ⟨fun _ => ⟨by rw [Nat.add_sub_cancel], rfl⟩, fun h9 => absurd hT h9⟩, by rw [ht]; exact hP, va_K.moved hW.alike hK, hD⟩, hS.F ht⟩) hS.2.2 dM_event_129
        · refine lv_iconst (v := 1) hx hb dM_event_69 (by decide) ?_
          refine lv_goto (tgt := 74) hx hb dM_event_70 (by decide) ?_
          refine lv_iconst (v := 0) hx hb dM_event_74 (by decide) ?_
          have hFc := va_free (wc := mw r cI cZ (b) (g)) hD hS hA (List.range 11) rfl
          refine va_calli (va_runV (As := [.int (0), .int (1), .int (0)]) (rest := []) ⟨hx, hb, hml, hown, hbw⟩ (tM_refuse l dC dI r cI cZ cG (b) (g) s.heap.size false true false) (cwV 3 hbw (bw_V km_M_53 ki_yM_refuse ksel_yM_refuse ki_EventPatternsModel kcM_refuse) rfl rfl rfl (by decide +kernel) ⟨Nat.le_of_ble_eq_true rfl, Nat.le_of_ble_eq_true rfl⟩) ⟨fun a U g mk q => by obtain ⟨q0, q1, qP, qK, qD⟩ := q; exact ⟨q0, q1, qP, va_K.moved (u := U) (U := U.calling g mk a) (Vm.Alike.refl U.vm) qK, qD⟩, va_recv hK hP (ci := 1) (q0 := 0) rfl rfl, fun U hU hW => ⟨rfl, by rw [hU], by rw [hU]; exact hP, va_K.moved hW.alike hK, hD.weaken (fun _ _ _ _ => trivial)⟩⟩ rfl rfl hl.1 rfl (lv_room (Nat.le_of_ble_eq_true rfl)) dM_event_75 ⟨Nat.le_of_ble_eq_true rfl, Nat.le_of_ble_eq_true rfl⟩) hS (fun q _ h => hFc q h) hFc (fun r_75 u t H1 locs ht hvm hq hB hz1 hk1 hS => ?_)
          obtain ⟨hq1, hq⟩ := hq
          have hq1 : r_75 = 1 := hq1
          subst hq1
          obtain rfl := hq
          obtain ⟨hP1, hK1, hD1⟩ := hB
          rw [ht] at hP1
          have hP : va_P (dC, dI) cls2 (mw r cI cZ (b) (va_up (g) 0 (nI (mTh false true false)))) H1 := hP1
          have hD : va_D A (mw r cI cZ (b) (va_up (g) 0 (nI (mTh false true false)))) := hD1.weaken (fun _ _ _ h => hFc _ h)
          generalize H1 = H at hP hS ⊢
          refine lv_if_eq (tgt := 83) hx hb dM_event_78 (by decide) (fun c9 => absurd c9 (by decide)) (fun _ => ?_)
          refine lv_iconst (v := 0) hx hb dM_event_81 (by decide) ?_
          have hT : mEvT b ev tm kd = mTh false true false := by first | (rw [mEvT, c_28, c_38, decide_eq_true c_66]; rfl) | (rw [mEvT, c_28, c_38, decide_eq_false c_66]; rfl) | (rw [mEvT, c_28, decide_eq_true c_66]; rfl) | (rw [mEvT, c_28, decide_eq_false c_66]; rfl)
          rw [← hT] at hP hD
          exact W.iret (v := 0) hx hb hr (fun t ht hW => ⟨⟨0, (b, va_up g 0 (nI (mEvT b ev tm kd))), rfl, ⟨fun h9 => absurd h9 (by rw [hT]; decide), fun _ => rfl⟩, by rw [ht]; exact hP, va_K.moved hW.alike hK, hD⟩, hS.F ht⟩) hS.2.2 dM_event_82
set_option maxHeartbeats 4000000 in
set_option maxRecDepth 100000 in
/-- pattern(style, span) -/
theorem tM_pattern (l : Launch) (dC : Nat → ClassId) (dI : Nat → Nat → Nat) (r : Nat → Nat) (cI cZ cG : ClassId) (b : Nat → Nat → Int32) (g : Nat → Int32) (sz : Nat) (sy sp : Int32)  : Met l yM_pattern wM_pattern ({ frames := 1, cells := 0, slots := 0, locals := 23 }) (va_Pc [.ref (r 0), .int (sy), .int (sp)] (fun U => U.heap.size = sz ∧ va_P (dC, dI) cls2 (mw r cI cZ b g) U.heap ∧ va_K (dC, dI) cls2 (xt cI cZ cG) U ∧ va_D (fun _ => True) (mw r cI cZ b g))) (va_Qv (fun (u : MS) => (mPaT sy sp = 0 → u = (b, va_up (va_up (va_up (va_up g 0 (nI (mTh false false false))) 2 sy) 3 sp) 4 0)) ∧ (¬ mPaT sy sp = 0 → u = (b, va_up g 0 (nI (mPaT sy sp))))) (atM dC dI r cI cZ cG (va_A (mw r cI cZ b g) sz)) (va_A (mw r cI cZ b g) sz)) 0 0 (va_A (mw r cI cZ b g) sz) := by
  refine Met.ofW (cc := cM_pattern) (maxL := 3) (ret := none) (by decide) rfl ?_
  intro p e s m args below meth c s₁ B hml hv
  obtain ⟨rfl, hsz, hP, hK, hD0⟩ := hv
  have hx := B.exec
  have hb := B.bytes
  have hr := B.returns
  have hbw : ∀ w ∈ bw, w.before _ s = true := fun w h => atoms_spec (ws := wM_pattern) B.pre w (List.mem_cons_of_mem _ h)
  have hown : s.vm.findClass "EventPatternsModel" = some m.cls := findClass_of_methodNamed B.named
  have hlocks := B.notSynchronized
  subst hsz
  have hD := hD0.self (sz := s.heap.size)
  generalize hAe : va_A (mw r cI cZ b g) s.heap.size = A at hD ⊢
  have hA : ∀ q : Nat, s.heap.size ≤ q → A q := fun q h => by rw [← hAe]; exact Or.inr h
  have hS : va_S A s.heap s.heap [] := va_S.rf
  have hl := lv_entry ([.ref (r 0), .int (sy), .int (sp)]) (n := 3) (Nat.le_of_ble_eq_true rfl)
  rw [lg_entry_eq]
  generalize (lg_sl ([.ref (r 0), .int (sy), .int (sp)]) ++ List.replicate (3 - (lg_sl ([.ref (r 0), .int (sy), .int (sp)])).length) Slot.unset).toArray = ls at hl ⊢
  have hl : lv_has ls 3 [(0, .ref (r 0)), (1, .int (sy)), (2, .int (sp))] := hl
  refine lv_aload_n hx hb dM_pattern_0 rfl (lv_at hl 0 rfl) ?_
  refine lv_iload_n hx hb dM_pattern_1 rfl (lv_at hl 1 rfl) ?_
  refine lv_iconst (v := 0) hx hb dM_pattern_2 (by decide) ?_
  refine lv_iconst (v := 1) hx hb dM_pattern_3 (by decide) ?_
  refine vp_callSi (W.runS (As := [.int (sy), .int (0), .int (1)]) (rest := [.ref (r 0)]) ⟨hx, hb, hml, hown, hbw⟩ (tM_in l (sy) (0) (1)) (cwS 3 hbw (bw_S km_M_49 ks_yM_in ki_EventPatternsModel kcM_in) rfl rfl rfl (by decide +kernel) ⟨Nat.le_of_ble_eq_true rfl, Nat.le_of_ble_eq_true rfl⟩) ⟨fun a U g mk q => q, fun U hU hW => ⟨rfl, trivial⟩⟩ rfl rfl hl.1 rfl (lv_room (Nat.le_of_ble_eq_true rfl)) dM_pattern_4 ⟨Nat.le_of_ble_eq_true rfl, Nat.le_of_ble_eq_true rfl⟩) (fun r_4 hq => ?_)
  subst hq
  refine nr_ifb_eq (tgt := 20) hx hb (b := (iIn (sy) (0) (1))) dM_pattern_7 (by decide) (fun c_7 => ?_) (fun c_7 => ?_)
  · refine lv_iconst (v := 1) hx hb dM_pattern_20 (by decide) ?_
    refine lv_goto (tgt := 25) hx hb dM_pattern_21 (by decide) ?_
    refine lv_iconst (v := 0) hx hb dM_pattern_25 (by decide) ?_
    refine lv_iconst (v := 0) hx hb dM_pattern_26 (by decide) ?_
    have hFc := va_free (wc := mw r cI cZ (b) (g)) hD hS hA (List.range 11) rfl
    refine va_calli (va_runV (As := [.int (1), .int (0), .int (0)]) (rest := []) ⟨hx, hb, hml, hown, hbw⟩ (tM_refuse l dC dI r cI cZ cG (b) (g) s.heap.size true false false) (cwV 3 hbw (bw_V km_M_53 ki_yM_refuse ksel_yM_refuse ki_EventPatternsModel kcM_refuse) rfl rfl rfl (by decide +kernel) ⟨Nat.le_of_ble_eq_true rfl, Nat.le_of_ble_eq_true rfl⟩) ⟨fun a U g mk q => by obtain ⟨q0, q1, qP, qK, qD⟩ := q; exact ⟨q0, q1, qP, va_K.moved (u := U) (U := U.calling g mk a) (Vm.Alike.refl U.vm) qK, qD⟩, va_recv hK hP (ci := 1) (q0 := 0) rfl rfl, fun U hU hW => ⟨rfl, by rw [hU], by rw [hU]; exact hP, va_K.moved hW.alike hK, hD.weaken (fun _ _ _ _ => trivial)⟩⟩ rfl rfl hl.1 rfl (lv_room (Nat.le_of_ble_eq_true rfl)) dM_pattern_27 ⟨Nat.le_of_ble_eq_true rfl, Nat.le_of_ble_eq_true rfl⟩) hS (fun q _ h => hFc q h) hFc (fun r_27 u t H1 locs ht hvm hq hB hz1 hk1 hS => ?_)
    obtain ⟨hq1, hq⟩ := hq
    have hq1 : r_27 = 1 := hq1
    subst hq1
    obtain rfl := hq
    obtain ⟨hP1, hK1, hD1⟩ := hB
    rw [ht] at hP1
    have hP : va_P (dC, dI) cls2 (mw r cI cZ (b) (va_up (g) 0 (nI (mTh true false false)))) H1 := hP1
    have hD : va_D A (mw r cI cZ (b) (va_up (g) 0 (nI (mTh true false false)))) := hD1.weaken (fun _ _ _ h => hFc _ h)
    generalize H1 = H at hP hS ⊢
    refine lv_if_ne (tgt := 48) hx hb dM_pattern_30 (by decide) (fun _ => ?_) (fun c9 => absurd c9 (by decide))
    have hT : mPaT sy sp = mTh true false false := by first | (rw [mPaT, c_7, c_17]; rfl) | (rw [mPaT, c_7]; rfl)
    rw [← hT] at hP hD
    exact W.vret hx hb hr (fun t ht hW => ⟨⟨(b, va_up g 0 (nI (mPaT sy sp))), rfl, ⟨fun h9 => absurd h9 (by rw [hT]; decide), fun _ => rfl⟩, by rw [ht]; exact hP, va_K.moved hW.alike hK, hD⟩, hS.F ht⟩) hS.2.2 dM_pattern_48
  · refine lv_iload_n hx hb dM_pattern_10 rfl (lv_at hl 2 rfl) ?_
    refine lv_iconst (v := 0) hx hb dM_pattern_11 (by decide) ?_
    refine lv_ldc (v := 1000000) hx hb hown (hbw _ kk_M_48) dM_pattern_12 ?_
    refine vp_callSi (W.runS (As := [.int (sp), .int (0), .int (1000000)]) (rest := [.ref (r 0)]) ⟨hx, hb, hml, hown, hbw⟩ (tM_in l (sp) (0) (1000000)) (cwS 3 hbw (bw_S km_M_49 ks_yM_in ki_EventPatternsModel kcM_in) rfl rfl rfl (by decide +kernel) ⟨Nat.le_of_ble_eq_true rfl, Nat.le_of_ble_eq_true rfl⟩) ⟨fun a U g mk q => q, fun U hU hW => ⟨rfl, trivial⟩⟩ rfl rfl hl.1 rfl (lv_room (Nat.le_of_ble_eq_true rfl)) dM_pattern_14 ⟨Nat.le_of_ble_eq_true rfl, Nat.le_of_ble_eq_true rfl⟩) (fun r_14 hq => ?_)
    subst hq
    refine nr_ifb_ne (tgt := 24) hx hb (b := (iIn (sp) (0) (1000000))) dM_pattern_17 (by decide) (fun c_17 => ?_) (fun c_17 => ?_)
    · refine lv_iconst (v := 0) hx hb dM_pattern_24 (by decide) ?_
      refine lv_iconst (v := 0) hx hb dM_pattern_25 (by decide) ?_
      refine lv_iconst (v := 0) hx hb dM_pattern_26 (by decide) ?_
      have hFc := va_free (wc := mw r cI cZ (b) (g)) hD hS hA (List.range 11) rfl
      refine va_calli (va_runV (As := [.int (0), .int (0), .int (0)]) (rest := []) ⟨hx, hb, hml, hown, hbw⟩ (tM_refuse l dC dI r cI cZ cG (b) (g) s.heap.size false false false) (cwV 3 hbw (bw_V km_M_53 ki_yM_refuse ksel_yM_refuse ki_EventPatternsModel kcM_refuse) rfl rfl rfl (by decide +kernel) ⟨Nat.le_of_ble_eq_true rfl, Nat.le_of_ble_eq_true rfl⟩) ⟨fun a U g mk q => by obtain ⟨q0, q1, qP, qK, qD⟩ := q; exact ⟨q0, q1, qP, va_K.moved (u := U) (U := U.calling g mk a) (Vm.Alike.refl U.vm) qK, qD⟩, va_recv hK hP (ci := 1) (q0 := 0) rfl rfl, fun U hU hW => ⟨rfl, by rw [hU], by rw [hU]; exact hP, va_K.moved hW.alike hK, hD.weaken (fun _ _ _ _ => trivial)⟩⟩ rfl rfl hl.1 rfl (lv_room (Nat.le_of_ble_eq_true rfl)) dM_pattern_27 ⟨Nat.le_of_ble_eq_true rfl, Nat.le_of_ble_eq_true rfl⟩) hS (fun q _ h => hFc q h) hFc (fun r_27 u t H1 locs ht hvm hq hB hz1 hk1 hS => ?_)
      obtain ⟨hq1, hq⟩ := hq
      have hq1 : r_27 = 0 := hq1
      subst hq1
      obtain rfl := hq
      obtain ⟨hP1, hK1, hD1⟩ := hB
      rw [ht] at hP1
      have hP : va_P (dC, dI) cls2 (mw r cI cZ (b) (va_up (g) 0 (nI (mTh false false false)))) H1 := hP1
      have hD : va_D A (mw r cI cZ (b) (va_up (g) 0 (nI (mTh false false false)))) := hD1.weaken (fun _ _ _ h => hFc _ h)
      generalize H1 = H at hP hS ⊢
      refine lv_if_ne (tgt := 48) hx hb dM_pattern_30 (by decide) (fun c9 => absurd c9 (by decide)) (fun _ => ?_)
      refine lv_aload_n hx hb dM_pattern_33 rfl (lv_at hl 0 rfl) ?_
      refine lv_iload_n hx hb dM_pattern_34 rfl (lv_at hl 1 rfl) ?_
      refine va_put (D := (dC, dI)) (ci := 1) (v := .int (sy)) (ty := .int) (C := "EventPatternsModel") (T := TM) (N := 16) hx hb hbw inM tyM okM nmM hown hK hP hD hS 0 rfl rfl 5 (by decide) (hbw _ kf_M_57) (fun _ h9 => h9) rfl (by decide +kernel) rfl rfl (Nat.le_of_ble_eq_true rfl) dM_pattern_35 (fun H locs hP hD hS => ?_)
      have hP : va_P (dC, dI) cls2 (mw r cI cZ (b) (va_up (va_up (g) 0 (nI (mTh false false false))) 2 (sy))) H := hP
      have hD : va_D A (mw r cI cZ (b) (va_up (va_up (g) 0 (nI (mTh false false false))) 2 (sy))) := hD
      refine lv_aload_n hx hb dM_pattern_38 rfl (lv_at hl 0 rfl) ?_
      refine lv_iload_n hx hb dM_pattern_39 rfl (lv_at hl 2 rfl) ?_
      refine va_put (D := (dC, dI)) (ci := 1) (v := .int (sp)) (ty := .int) (C := "EventPatternsModel") (T := TM) (N := 16) hx hb hbw inM tyM okM nmM hown hK hP hD hS 0 rfl rfl 6 (by decide) (hbw _ kf_M_60) (fun _ h9 => h9) rfl (by decide +kernel) rfl rfl (Nat.le_of_ble_eq_true rfl) dM_pattern_40 (fun H locs hP hD hS => ?_)
      have hP : va_P (dC, dI) cls2 (mw r cI cZ (b) (va_up (va_up (va_up (g) 0 (nI (mTh false false false))) 2 (sy)) 3 (sp))) H := hP
      have hD : va_D A (mw r cI cZ (b) (va_up (va_up (va_up (g) 0 (nI (mTh false false false))) 2 (sy)) 3 (sp))) := hD
      refine lv_aload_n hx hb dM_pattern_43 rfl (lv_at hl 0 rfl) ?_
      refine lv_iconst (v := 0) hx hb dM_pattern_44 (by decide) ?_
      refine va_put (D := (dC, dI)) (ci := 1) (v := .int (0)) (ty := .int) (C := "EventPatternsModel") (T := TM) (N := 16) hx hb hbw inM tyM okM nmM hown hK hP hD hS 0 rfl rfl 7 (by decide) (hbw _ kf_M_63) (fun _ h9 => h9) rfl (by decide +kernel) rfl rfl (Nat.le_of_ble_eq_true rfl) dM_pattern_45 (fun H locs hP hD hS => ?_)
      have hP : va_P (dC, dI) cls2 (mw r cI cZ (b) (va_up (va_up (va_up (va_up (g) 0 (nI (mTh false false false))) 2 (sy)) 3 (sp)) 4 (0))) H := hP
      have hD : va_D A (mw r cI cZ (b) (va_up (va_up (va_up (va_up (g) 0 (nI (mTh false false false))) 2 (sy)) 3 (sp)) 4 (0))) := hD
      have hT : mPaT sy sp = 0 := by first | (rw [mPaT, c_7, c_17]; rfl) | (rw [mPaT, c_7]; rfl)
      exact W.vret hx hb hr (fun t ht hW => ⟨⟨(b, va_up (va_up (va_up (va_up g 0 (nI (mTh false false false))) 2 sy) 3 sp) 4 0), rfl, ⟨fun _ => rfl, fun h9 => absurd hT h9⟩, by rw [ht]; exact hP, va_K.moved hW.alike hK, hD⟩, hS.F ht⟩) hS.2.2 dM_pattern_48
    · refine lv_iconst (v := 1) hx hb dM_pattern_20 (by decide) ?_
      refine lv_goto (tgt := 25) hx hb dM_pattern_21 (by decide) ?_
      refine lv_iconst (v := 0) hx hb dM_pattern_25 (by decide) ?_
      refine lv_iconst (v := 0) hx hb dM_pattern_26 (by decide) ?_
      have hFc := va_free (wc := mw r cI cZ (b) (g)) hD hS hA (List.range 11) rfl
      refine va_calli (va_runV (As := [.int (1), .int (0), .int (0)]) (rest := []) ⟨hx, hb, hml, hown, hbw⟩ (tM_refuse l dC dI r cI cZ cG (b) (g) s.heap.size true false false) (cwV 3 hbw (bw_V km_M_53 ki_yM_refuse ksel_yM_refuse ki_EventPatternsModel kcM_refuse) rfl rfl rfl (by decide +kernel) ⟨Nat.le_of_ble_eq_true rfl, Nat.le_of_ble_eq_true rfl⟩) ⟨fun a U g mk q => by obtain ⟨q0, q1, qP, qK, qD⟩ := q; exact ⟨q0, q1, qP, va_K.moved (u := U) (U := U.calling g mk a) (Vm.Alike.refl U.vm) qK, qD⟩, va_recv hK hP (ci := 1) (q0 := 0) rfl rfl, fun U hU hW => ⟨rfl, by rw [hU], by rw [hU]; exact hP, va_K.moved hW.alike hK, hD.weaken (fun _ _ _ _ => trivial)⟩⟩ rfl rfl hl.1 rfl (lv_room (Nat.le_of_ble_eq_true rfl)) dM_pattern_27 ⟨Nat.le_of_ble_eq_true rfl, Nat.le_of_ble_eq_true rfl⟩) hS (fun q _ h => hFc q h) hFc (fun r_27 u t H1 locs ht hvm hq hB hz1 hk1 hS => ?_)
      obtain ⟨hq1, hq⟩ := hq
      have hq1 : r_27 = 1 := hq1
      subst hq1
      obtain rfl := hq
      obtain ⟨hP1, hK1, hD1⟩ := hB
      rw [ht] at hP1
      have hP : va_P (dC, dI) cls2 (mw r cI cZ (b) (va_up (g) 0 (nI (mTh true false false)))) H1 := hP1
      have hD : va_D A (mw r cI cZ (b) (va_up (g) 0 (nI (mTh true false false)))) := hD1.weaken (fun _ _ _ h => hFc _ h)
      generalize H1 = H at hP hS ⊢
      refine lv_if_ne (tgt := 48) hx hb dM_pattern_30 (by decide) (fun _ => ?_) (fun c9 => absurd c9 (by decide))
      have hT : mPaT sy sp = mTh true false false := by first | (rw [mPaT, c_7, c_17]; rfl) | (rw [mPaT, c_7]; rfl)
      rw [← hT] at hP hD
      exact W.vret hx hb hr (fun t ht hW => ⟨⟨(b, va_up g 0 (nI (mPaT sy sp))), rfl, ⟨fun h9 => absurd h9 (by rw [hT]; decide), fun _ => rfl⟩, by rw [ht]; exact hP, va_K.moved hW.alike hK, hD⟩, hS.F ht⟩) hS.2.2 dM_pattern_48
set_option maxHeartbeats 4000000 in
set_option maxRecDepth 100000 in
/-- step(kinds, test, n, many) -/
theorem tM_step (l : Launch) (dC : Nat → ClassId) (dI : Nat → Nat → Nat) (r : Nat → Nat) (cI cZ cG : ClassId) (b : Nat → Nat → Int32) (g : Nat → Int32) (sz : Nat) (ms : Nat) (ki te nn mb : Int32) (hm : ms ≤ 5) (hg4 : g 4 = nI ms) : Met l yM_step wM_step ({ frames := 1, cells := 0, slots := 0, locals := 23 }) (va_Pc [.ref (r 0), .int (ki), .int (te), .int (nn), .int (mb)] (fun U => U.heap.size = sz ∧ va_P (dC, dI) cls2 (mw r cI cZ b g) U.heap ∧ va_K (dC, dI) cls2 (xt cI cZ cG) U ∧ va_D (fun _ => True) (mw r cI cZ b g))) (va_Qi (fun (r0 : Int32) (u : MS) => (mStT ms ki te = 0 → r0 = nI ms ∧ u = (mStB b ms ki te nn mb, va_up (va_up g 0 (nI (mTh false false false))) 4 (nI (ms + 1)))) ∧ (¬ mStT ms ki te = 0 → u = (b, va_up g 0 (nI (mStT ms ki te))))) (atM dC dI r cI cZ cG (va_A (mw r cI cZ b g) sz)) (va_A (mw r cI cZ b g) sz)) 0 0 (va_A (mw r cI cZ b g) sz) := by
  refine Met.ofW (cc := cM_step) (maxL := 6) (ret := (some .int)) (by decide) rfl ?_
  intro p e s m args below meth c s₁ B hml hv
  obtain ⟨rfl, hsz, hP, hK, hD0⟩ := hv
  have hx := B.exec
  have hb := B.bytes
  have hr := B.returns
  have hbw : ∀ w ∈ bw, w.before _ s = true := fun w h => atoms_spec (ws := wM_step) B.pre w (List.mem_cons_of_mem _ h)
  have hown : s.vm.findClass "EventPatternsModel" = some m.cls := findClass_of_methodNamed B.named
  have hlocks := B.notSynchronized
  subst hsz
  have hD := hD0.self (sz := s.heap.size)
  generalize hAe : va_A (mw r cI cZ b g) s.heap.size = A at hD ⊢
  have hA : ∀ q : Nat, s.heap.size ≤ q → A q := fun q h => by rw [← hAe]; exact Or.inr h
  have hS : va_S A s.heap s.heap [] := va_S.rf
  have hl := lv_entry ([.ref (r 0), .int (ki), .int (te), .int (nn), .int (mb)]) (n := 6) (Nat.le_of_ble_eq_true rfl)
  rw [lg_entry_eq]
  generalize (lg_sl ([.ref (r 0), .int (ki), .int (te), .int (nn), .int (mb)]) ++ List.replicate (6 - (lg_sl ([.ref (r 0), .int (ki), .int (te), .int (nn), .int (mb)])).length) Slot.unset).toArray = ls at hl ⊢
  have hl : lv_has ls 6 [(0, .ref (r 0)), (1, .int (ki)), (2, .int (te)), (3, .int (nn)), (4, .int (mb))] := hl
  refine lv_iload_n hx hb dM_step_0 rfl (lv_at hl 1 rfl) ?_
  refine lv_iconst (v := 1) hx hb dM_step_1 (by decide) ?_
  refine lv_sipush (v := 255) hx hb dM_step_2 (by decide) ?_
  refine vp_callSi (W.runS (As := [.int (ki), .int (1), .int (255)]) (rest := []) ⟨hx, hb, hml, hown, hbw⟩ (tM_in l (ki) (1) (255)) (cwS 3 hbw (bw_S km_M_49 ks_yM_in ki_EventPatternsModel kcM_in) rfl rfl rfl (by decide +kernel) ⟨Nat.le_of_ble_eq_true rfl, Nat.le_of_ble_eq_true rfl⟩) ⟨fun a U g mk q => q, fun U hU hW => ⟨rfl, trivial⟩⟩ rfl rfl hl.1 rfl (lv_room (Nat.le_of_ble_eq_true rfl)) dM_step_5 ⟨Nat.le_of_ble_eq_true rfl, Nat.le_of_ble_eq_true rfl⟩) (fun r_5 hq => ?_)
  subst hq
  refine nr_ifb_eq (tgt := 24) hx hb (b := (iIn (ki) (1) (255))) dM_step_8 (by decide) (fun c_8 => ?_) (fun c_8 => ?_)
  · refine lv_iconst (v := 0) hx hb dM_step_24 (by decide) ?_
    refine lv_istore (lv' := [(5, .int (0)), (0, .ref (r 0)), (1, .int (ki)), (2, .int (te)), (3, .int (nn)), (4, .int (mb))]) hx hb dM_step_25 hl (by decide) rfl (fun ls hl => ?_)
    refine lv_aload_n hx hb dM_step_27 rfl (lv_at hl 1 rfl) ?_
    refine lv_iload hx hb dM_step_28 (lv_at hl 0 rfl) ?_
    refine lv_if_ne (tgt := 37) hx hb dM_step_30 (by decide) (fun c9 => absurd c9 (by decide)) (fun _ => ?_)
    refine lv_iconst (v := 1) hx hb dM_step_33 (by decide) ?_
    refine lv_goto (tgt := 38) hx hb dM_step_34 (by decide) ?_
    refine lv_aload_n hx hb dM_step_38 rfl (lv_at hl 1 rfl) ?_
    refine va_get (D := (dC, dI)) (ci := 1) (v := .int (nI (ms))) (C := "EventPatternsModel") (T := TM) (N := 16) hx hb hbw inM hown hK hP 0 rfl rfl 7 (by decide) (hbw _ kf_M_63) (fun _ h9 => h9) (congrArg (fun z => some (Value.int z)) (hg4)) dM_step_39 ?_
    refine lv_iconst (v := 5) hx hb dM_step_42 (by decide) ?_
    refine nr_icmp_ne (tgt := 50) hx hb (a1 := ms) (b1 := 5) (by omega) (by omega) dM_step_43 (by decide) (fun c_43 => ?_) (fun c_43 => ?_)
    · refine lv_iconst (v := 0) hx hb dM_step_50 (by decide) ?_
      refine lv_iconst (v := 0) hx hb dM_step_51 (by decide) ?_
      have hFc := va_free (wc := mw r cI cZ (b) (g)) hD hS hA (List.range 11) rfl
      refine va_calli (va_runV (As := [.int (1), .int (0), .int (0)]) (rest := []) ⟨hx, hb, hml, hown, hbw⟩ (tM_refuse l dC dI r cI cZ cG (b) (g) s.heap.size true false false) (cwV 3 hbw (bw_V km_M_53 ki_yM_refuse ksel_yM_refuse ki_EventPatternsModel kcM_refuse) rfl rfl rfl (by decide +kernel) ⟨Nat.le_of_ble_eq_true rfl, Nat.le_of_ble_eq_true rfl⟩) ⟨fun a U g mk q => by obtain ⟨q0, q1, qP, qK, qD⟩ := q; exact ⟨q0, q1, qP, va_K.moved (u := U) (U := U.calling g mk a) (Vm.Alike.refl U.vm) qK, qD⟩, va_recv hK hP (ci := 1) (q0 := 0) rfl rfl, fun U hU hW => ⟨rfl, by rw [hU], by rw [hU]; exact hP, va_K.moved hW.alike hK, hD.weaken (fun _ _ _ _ => trivial)⟩⟩ rfl rfl hl.1 rfl (lv_room (Nat.le_of_ble_eq_true rfl)) dM_step_52 ⟨Nat.le_of_ble_eq_true rfl, Nat.le_of_ble_eq_true rfl⟩) hS (fun q _ h => hFc q h) hFc (fun r_52 u t H1 locs ht hvm hq hB hz1 hk1 hS => ?_)
      obtain ⟨hq1, hq⟩ := hq
      have hq1 : r_52 = 1 := hq1
      subst hq1
      obtain rfl := hq
      obtain ⟨hP1, hK1, hD1⟩ := hB
      rw [ht] at hP1
      have hP : va_P (dC, dI) cls2 (mw r cI cZ (b) (va_up (g) 0 (nI (mTh true false false)))) H1 := hP1
      have hD : va_D A (mw r cI cZ (b) (va_up (g) 0 (nI (mTh true false false)))) := hD1.weaken (fun _ _ _ h => hFc _ h)
      generalize H1 = H at hP hS ⊢
      refine lv_if_eq (tgt := 60) hx hb dM_step_55 (by decide) (fun c9 => absurd c9 (by decide)) (fun _ => ?_)
      refine lv_iconst (v := 0) hx hb dM_step_58 (by decide) ?_
      have hT : mStT ms ki te = mTh true false false := by first | (rw [mStT, c_8, c_17, decide_eq_true c_43]; rfl) | (rw [mStT, c_8, c_17, decide_eq_false c_43]; rfl) | (rw [mStT, c_8, decide_eq_true c_43]; rfl) | (rw [mStT, c_8, decide_eq_false c_43]; rfl)
      rw [← hT] at hP hD
      exact W.iret (v := 0) hx hb hr (fun t ht hW => ⟨⟨0, (b, va_up g 0 (nI (mStT ms ki te))), rfl, ⟨fun h9 => absurd h9 (by rw [hT]; decide), fun _ => rfl⟩, by rw [ht]; exact hP, va_K.moved hW.alike hK, hD⟩, hS.F ht⟩) hS.2.2 dM_step_59
    · refine lv_iconst (v := 1) hx hb dM_step_46 (by decide) ?_
      refine lv_goto (tgt := 51) hx hb dM_step_47 (by decide) ?_
      refine lv_iconst (v := 0) hx hb dM_step_51 (by decide) ?_
      have hFc := va_free (wc := mw r cI cZ (b) (g)) hD hS hA (List.range 11) rfl
      refine va_calli (va_runV (As := [.int (1), .int (1), .int (0)]) (rest := []) ⟨hx, hb, hml, hown, hbw⟩ (tM_refuse l dC dI r cI cZ cG (b) (g) s.heap.size true true false) (cwV 3 hbw (bw_V km_M_53 ki_yM_refuse ksel_yM_refuse ki_EventPatternsModel kcM_refuse) rfl rfl rfl (by decide +kernel) ⟨Nat.le_of_ble_eq_true rfl, Nat.le_of_ble_eq_true rfl⟩) ⟨fun a U g mk q => by obtain ⟨q0, q1, qP, qK, qD⟩ := q; exact ⟨q0, q1, qP, va_K.moved (u := U) (U := U.calling g mk a) (Vm.Alike.refl U.vm) qK, qD⟩, va_recv hK hP (ci := 1) (q0 := 0) rfl rfl, fun U hU hW => ⟨rfl, by rw [hU], by rw [hU]; exact hP, va_K.moved hW.alike hK, hD.weaken (fun _ _ _ _ => trivial)⟩⟩ rfl rfl hl.1 rfl (lv_room (Nat.le_of_ble_eq_true rfl)) dM_step_52 ⟨Nat.le_of_ble_eq_true rfl, Nat.le_of_ble_eq_true rfl⟩) hS (fun q _ h => hFc q h) hFc (fun r_52 u t H1 locs ht hvm hq hB hz1 hk1 hS => ?_)
      obtain ⟨hq1, hq⟩ := hq
      have hq1 : r_52 = 1 := hq1
      subst hq1
      obtain rfl := hq
      obtain ⟨hP1, hK1, hD1⟩ := hB
      rw [ht] at hP1
      have hP : va_P (dC, dI) cls2 (mw r cI cZ (b) (va_up (g) 0 (nI (mTh true true false)))) H1 := hP1
      have hD : va_D A (mw r cI cZ (b) (va_up (g) 0 (nI (mTh true true false)))) := hD1.weaken (fun _ _ _ h => hFc _ h)
      generalize H1 = H at hP hS ⊢
      refine lv_if_eq (tgt := 60) hx hb dM_step_55 (by decide) (fun c9 => absurd c9 (by decide)) (fun _ => ?_)
      refine lv_iconst (v := 0) hx hb dM_step_58 (by decide) ?_
      have hT : mStT ms ki te = mTh true true false := by first | (rw [mStT, c_8, c_17, decide_eq_true c_43]; rfl) | (rw [mStT, c_8, c_17, decide_eq_false c_43]; rfl) | (rw [mStT, c_8, decide_eq_true c_43]; rfl) | (rw [mStT, c_8, decide_eq_false c_43]; rfl)
      rw [← hT] at hP hD
      exact W.iret (v := 0) hx hb hr (fun t ht hW => ⟨⟨0, (b, va_up g 0 (nI (mStT ms ki te))), rfl, ⟨fun h9 => absurd h9 (by rw [hT]; decide), fun _ => rfl⟩, by rw [ht]; exact hP, va_K.moved hW.alike hK, hD⟩, hS.F ht⟩) hS.2.2 dM_step_59
  · refine lv_iload_n hx hb dM_step_11 rfl (lv_at hl 2 rfl) ?_
    refine lv_iconst (v := 0) hx hb dM_step_12 (by decide) ?_
    refine lv_iconst (v := 4) hx hb dM_step_13 (by decide) ?_
    refine vp_callSi (W.runS (As := [.int (te), .int (0), .int (4)]) (rest := []) ⟨hx, hb, hml, hown, hbw⟩ (tM_in l (te) (0) (4)) (cwS 3 hbw (bw_S km_M_49 ks_yM_in ki_EventPatternsModel kcM_in) rfl rfl rfl (by decide +kernel) ⟨Nat.le_of_ble_eq_true rfl, Nat.le_of_ble_eq_true rfl⟩) ⟨fun a U g mk q => q, fun U hU hW => ⟨rfl, trivial⟩⟩ rfl rfl hl.1 rfl (lv_room (Nat.le_of_ble_eq_true rfl)) dM_step_14 ⟨Nat.le_of_ble_eq_true rfl, Nat.le_of_ble_eq_true rfl⟩) (fun r_14 hq => ?_)
    subst hq
    refine nr_ifb_eq (tgt := 24) hx hb (b := (iIn (te) (0) (4))) dM_step_17 (by decide) (fun c_17 => ?_) (fun c_17 => ?_)
    · refine lv_iconst (v := 0) hx hb dM_step_24 (by decide) ?_
      refine lv_istore (lv' := [(5, .int (0)), (0, .ref (r 0)), (1, .int (ki)), (2, .int (te)), (3, .int (nn)), (4, .int (mb))]) hx hb dM_step_25 hl (by decide) rfl (fun ls hl => ?_)
      refine lv_aload_n hx hb dM_step_27 rfl (lv_at hl 1 rfl) ?_
      refine lv_iload hx hb dM_step_28 (lv_at hl 0 rfl) ?_
      refine lv_if_ne (tgt := 37) hx hb dM_step_30 (by decide) (fun c9 => absurd c9 (by decide)) (fun _ => ?_)
      refine lv_iconst (v := 1) hx hb dM_step_33 (by decide) ?_
      refine lv_goto (tgt := 38) hx hb dM_step_34 (by decide) ?_
      refine lv_aload_n hx hb dM_step_38 rfl (lv_at hl 1 rfl) ?_
      refine va_get (D := (dC, dI)) (ci := 1) (v := .int (nI (ms))) (C := "EventPatternsModel") (T := TM) (N := 16) hx hb hbw inM hown hK hP 0 rfl rfl 7 (by decide) (hbw _ kf_M_63) (fun _ h9 => h9) (congrArg (fun z => some (Value.int z)) (hg4)) dM_step_39 ?_
      refine lv_iconst (v := 5) hx hb dM_step_42 (by decide) ?_
      refine nr_icmp_ne (tgt := 50) hx hb (a1 := ms) (b1 := 5) (by omega) (by omega) dM_step_43 (by decide) (fun c_43 => ?_) (fun c_43 => ?_)
      · refine lv_iconst (v := 0) hx hb dM_step_50 (by decide) ?_
        refine lv_iconst (v := 0) hx hb dM_step_51 (by decide) ?_
        have hFc := va_free (wc := mw r cI cZ (b) (g)) hD hS hA (List.range 11) rfl
        refine va_calli (va_runV (As := [.int (1), .int (0), .int (0)]) (rest := []) ⟨hx, hb, hml, hown, hbw⟩ (tM_refuse l dC dI r cI cZ cG (b) (g) s.heap.size true false false) (cwV 3 hbw (bw_V km_M_53 ki_yM_refuse ksel_yM_refuse ki_EventPatternsModel kcM_refuse) rfl rfl rfl (by decide +kernel) ⟨Nat.le_of_ble_eq_true rfl, Nat.le_of_ble_eq_true rfl⟩) ⟨fun a U g mk q => by obtain ⟨q0, q1, qP, qK, qD⟩ := q; exact ⟨q0, q1, qP, va_K.moved (u := U) (U := U.calling g mk a) (Vm.Alike.refl U.vm) qK, qD⟩, va_recv hK hP (ci := 1) (q0 := 0) rfl rfl, fun U hU hW => ⟨rfl, by rw [hU], by rw [hU]; exact hP, va_K.moved hW.alike hK, hD.weaken (fun _ _ _ _ => trivial)⟩⟩ rfl rfl hl.1 rfl (lv_room (Nat.le_of_ble_eq_true rfl)) dM_step_52 ⟨Nat.le_of_ble_eq_true rfl, Nat.le_of_ble_eq_true rfl⟩) hS (fun q _ h => hFc q h) hFc (fun r_52 u t H1 locs ht hvm hq hB hz1 hk1 hS => ?_)
        obtain ⟨hq1, hq⟩ := hq
        have hq1 : r_52 = 1 := hq1
        subst hq1
        obtain rfl := hq
        obtain ⟨hP1, hK1, hD1⟩ := hB
        rw [ht] at hP1
        have hP : va_P (dC, dI) cls2 (mw r cI cZ (b) (va_up (g) 0 (nI (mTh true false false)))) H1 := hP1
        have hD : va_D A (mw r cI cZ (b) (va_up (g) 0 (nI (mTh true false false)))) := hD1.weaken (fun _ _ _ h => hFc _ h)
        generalize H1 = H at hP hS ⊢
        refine lv_if_eq (tgt := 60) hx hb dM_step_55 (by decide) (fun c9 => absurd c9 (by decide)) (fun _ => ?_)
        refine lv_iconst (v := 0) hx hb dM_step_58 (by decide) ?_
        have hT : mStT ms ki te = mTh true false false := by first | (rw [mStT, c_8, c_17, decide_eq_true c_43]; rfl) | (rw [mStT, c_8, c_17, decide_eq_false c_43]; rfl) | (rw [mStT, c_8, decide_eq_true c_43]; rfl) | (rw [mStT, c_8, decide_eq_false c_43]; rfl)
        rw [← hT] at hP hD
        exact W.iret (v := 0) hx hb hr (fun t ht hW => ⟨⟨0, (b, va_up g 0 (nI (mStT ms ki te))), rfl, ⟨fun h9 => absurd h9 (by rw [hT]; decide), fun _ => rfl⟩, by rw [ht]; exact hP, va_K.moved hW.alike hK, hD⟩, hS.F ht⟩) hS.2.2 dM_step_59
      · refine lv_iconst (v := 1) hx hb dM_step_46 (by decide) ?_
        refine lv_goto (tgt := 51) hx hb dM_step_47 (by decide) ?_
        refine lv_iconst (v := 0) hx hb dM_step_51 (by decide) ?_
        have hFc := va_free (wc := mw r cI cZ (b) (g)) hD hS hA (List.range 11) rfl
        refine va_calli (va_runV (As := [.int (1), .int (1), .int (0)]) (rest := []) ⟨hx, hb, hml, hown, hbw⟩ (tM_refuse l dC dI r cI cZ cG (b) (g) s.heap.size true true false) (cwV 3 hbw (bw_V km_M_53 ki_yM_refuse ksel_yM_refuse ki_EventPatternsModel kcM_refuse) rfl rfl rfl (by decide +kernel) ⟨Nat.le_of_ble_eq_true rfl, Nat.le_of_ble_eq_true rfl⟩) ⟨fun a U g mk q => by obtain ⟨q0, q1, qP, qK, qD⟩ := q; exact ⟨q0, q1, qP, va_K.moved (u := U) (U := U.calling g mk a) (Vm.Alike.refl U.vm) qK, qD⟩, va_recv hK hP (ci := 1) (q0 := 0) rfl rfl, fun U hU hW => ⟨rfl, by rw [hU], by rw [hU]; exact hP, va_K.moved hW.alike hK, hD.weaken (fun _ _ _ _ => trivial)⟩⟩ rfl rfl hl.1 rfl (lv_room (Nat.le_of_ble_eq_true rfl)) dM_step_52 ⟨Nat.le_of_ble_eq_true rfl, Nat.le_of_ble_eq_true rfl⟩) hS (fun q _ h => hFc q h) hFc (fun r_52 u t H1 locs ht hvm hq hB hz1 hk1 hS => ?_)
        obtain ⟨hq1, hq⟩ := hq
        have hq1 : r_52 = 1 := hq1
        subst hq1
        obtain rfl := hq
        obtain ⟨hP1, hK1, hD1⟩ := hB
        rw [ht] at hP1
        have hP : va_P (dC, dI) cls2 (mw r cI cZ (b) (va_up (g) 0 (nI (mTh true true false)))) H1 := hP1
        have hD : va_D A (mw r cI cZ (b) (va_up (g) 0 (nI (mTh true true false)))) := hD1.weaken (fun _ _ _ h => hFc _ h)
        generalize H1 = H at hP hS ⊢
        refine lv_if_eq (tgt := 60) hx hb dM_step_55 (by decide) (fun c9 => absurd c9 (by decide)) (fun _ => ?_)
        refine lv_iconst (v := 0) hx hb dM_step_58 (by decide) ?_
        have hT : mStT ms ki te = mTh true true false := by first | (rw [mStT, c_8, c_17, decide_eq_true c_43]; rfl) | (rw [mStT, c_8, c_17, decide_eq_false c_43]; rfl) | (rw [mStT, c_8, decide_eq_true c_43]; rfl) | (rw [mStT, c_8, decide_eq_false c_43]; rfl)
        rw [← hT] at hP hD
        exact W.iret (v := 0) hx hb hr (fun t ht hW => ⟨⟨0, (b, va_up g 0 (nI (mStT ms ki te))), rfl, ⟨fun h9 => absurd h9 (by rw [hT]; decide), fun _ => rfl⟩, by rw [ht]; exact hP, va_K.moved hW.alike hK, hD⟩, hS.F ht⟩) hS.2.2 dM_step_59
    · refine lv_iconst (v := 1) hx hb dM_step_20 (by decide) ?_
      refine lv_goto (tgt := 25) hx hb dM_step_21 (by decide) ?_
      refine lv_istore (lv' := [(5, .int (1)), (0, .ref (r 0)), (1, .int (ki)), (2, .int (te)), (3, .int (nn)), (4, .int (mb))]) hx hb dM_step_25 hl (by decide) rfl (fun ls hl => ?_)
      refine lv_aload_n hx hb dM_step_27 rfl (lv_at hl 1 rfl) ?_
      refine lv_iload hx hb dM_step_28 (lv_at hl 0 rfl) ?_
      refine lv_if_ne (tgt := 37) hx hb dM_step_30 (by decide) (fun _ => ?_) (fun c9 => absurd c9 (by decide))
      refine lv_iconst (v := 0) hx hb dM_step_37 (by decide) ?_
      refine lv_aload_n hx hb dM_step_38 rfl (lv_at hl 1 rfl) ?_
      refine va_get (D := (dC, dI)) (ci := 1) (v := .int (nI (ms))) (C := "EventPatternsModel") (T := TM) (N := 16) hx hb hbw inM hown hK hP 0 rfl rfl 7 (by decide) (hbw _ kf_M_63) (fun _ h9 => h9) (congrArg (fun z => some (Value.int z)) (hg4)) dM_step_39 ?_
      refine lv_iconst (v := 5) hx hb dM_step_42 (by decide) ?_
      refine nr_icmp_ne (tgt := 50) hx hb (a1 := ms) (b1 := 5) (by omega) (by omega) dM_step_43 (by decide) (fun c_43 => ?_) (fun c_43 => ?_)
      · refine lv_iconst (v := 0) hx hb dM_step_50 (by decide) ?_
        refine lv_iconst (v := 0) hx hb dM_step_51 (by decide) ?_
        have hFc := va_free (wc := mw r cI cZ (b) (g)) hD hS hA (List.range 11) rfl
        refine va_calli (va_runV (As := [.int (0), .int (0), .int (0)]) (rest := []) ⟨hx, hb, hml, hown, hbw⟩ (tM_refuse l dC dI r cI cZ cG (b) (g) s.heap.size false false false) (cwV 3 hbw (bw_V km_M_53 ki_yM_refuse ksel_yM_refuse ki_EventPatternsModel kcM_refuse) rfl rfl rfl (by decide +kernel) ⟨Nat.le_of_ble_eq_true rfl, Nat.le_of_ble_eq_true rfl⟩) ⟨fun a U g mk q => by obtain ⟨q0, q1, qP, qK, qD⟩ := q; exact ⟨q0, q1, qP, va_K.moved (u := U) (U := U.calling g mk a) (Vm.Alike.refl U.vm) qK, qD⟩, va_recv hK hP (ci := 1) (q0 := 0) rfl rfl, fun U hU hW => ⟨rfl, by rw [hU], by rw [hU]; exact hP, va_K.moved hW.alike hK, hD.weaken (fun _ _ _ _ => trivial)⟩⟩ rfl rfl hl.1 rfl (lv_room (Nat.le_of_ble_eq_true rfl)) dM_step_52 ⟨Nat.le_of_ble_eq_true rfl, Nat.le_of_ble_eq_true rfl⟩) hS (fun q _ h => hFc q h) hFc (fun r_52 u t H1 locs ht hvm hq hB hz1 hk1 hS => ?_)
        obtain ⟨hq1, hq⟩ := hq
        have hq1 : r_52 = 0 := hq1
        subst hq1
        obtain rfl := hq
        obtain ⟨hP1, hK1, hD1⟩ := hB
        rw [ht] at hP1
        have hP : va_P (dC, dI) cls2 (mw r cI cZ (b) (va_up (g) 0 (nI (mTh false false false)))) H1 := hP1
        have hD : va_D A (mw r cI cZ (b) (va_up (g) 0 (nI (mTh false false false)))) := hD1.weaken (fun _ _ _ h => hFc _ h)
        generalize H1 = H at hP hS ⊢
        refine lv_if_eq (tgt := 60) hx hb dM_step_55 (by decide) (fun _ => ?_) (fun c9 => absurd c9 (by decide))
        refine lv_aload_n hx hb dM_step_60 rfl (lv_at hl 1 rfl) ?_
        refine va_get (D := (dC, dI)) (ci := 1) (v := .ref (r 4)) (C := "EventPatternsModel") (T := TM) (N := 16) hx hb hbw inM hown hK hP 0 rfl rfl 8 (by decide) (hbw _ kf_M_19) (fun _ h9 => h9) rfl dM_step_61 ?_
        refine lv_aload_n hx hb dM_step_64 rfl (lv_at hl 1 rfl) ?_
        refine va_get (D := (dC, dI)) (ci := 1) (v := .int (nI (ms))) (C := "EventPatternsModel") (T := TM) (N := 16) hx hb hbw inM hown hK hP 0 rfl rfl 7 (by decide) (hbw _ kf_M_63) (fun _ h9 => h9) (congrArg (fun z => some (Value.int z)) (hg4)) dM_step_65 ?_
        refine lv_iload_n hx hb dM_step_68 rfl (lv_at hl 2 rfl) ?_
        refine nr_iast hx hb hK hP hD hS 4 0 rfl rfl (j := ms) (by omega) (by decide) dM_step_69 (fun H locs hP hD hS => ?_)
        have hP : va_P (dC, dI) cls2 (mw r cI cZ (va_up (b) 3 (upd (b 3) (ms) (ki))) (va_up (g) 0 (nI (mTh false false false)))) H := hP
        have hD : va_D A (mw r cI cZ (va_up (b) 3 (upd (b 3) (ms) (ki))) (va_up (g) 0 (nI (mTh false false false)))) := hD
        refine lv_aload_n hx hb dM_step_70 rfl (lv_at hl 1 rfl) ?_
        refine va_get (D := (dC, dI)) (ci := 1) (v := .ref (r 5)) (C := "EventPatternsModel") (T := TM) (N := 16) hx hb hbw inM hown hK hP 0 rfl rfl 9 (by decide) (hbw _ kf_M_22) (fun _ h9 => h9) rfl dM_step_71 ?_
        refine lv_aload_n hx hb dM_step_74 rfl (lv_at hl 1 rfl) ?_
        refine va_get (D := (dC, dI)) (ci := 1) (v := .int (nI (ms))) (C := "EventPatternsModel") (T := TM) (N := 16) hx hb hbw inM hown hK hP 0 rfl rfl 7 (by decide) (hbw _ kf_M_63) (fun _ h9 => h9) (congrArg (fun z => some (Value.int z)) (hg4)) dM_step_75 ?_
        refine lv_iload_n hx hb dM_step_78 rfl (lv_at hl 3 rfl) ?_
        refine nr_iast hx hb hK hP hD hS 5 0 rfl rfl (j := ms) (by omega) (by decide) dM_step_79 (fun H locs hP hD hS => ?_)
        have hP : va_P (dC, dI) cls2 (mw r cI cZ (va_up (va_up (b) 3 (upd (b 3) (ms) (ki))) 4 (upd (b 4) (ms) (te))) (va_up (g) 0 (nI (mTh false false false)))) H := hP
        have hD : va_D A (mw r cI cZ (va_up (va_up (b) 3 (upd (b 3) (ms) (ki))) 4 (upd (b 4) (ms) (te))) (va_up (g) 0 (nI (mTh false false false)))) := hD
        refine lv_aload_n hx hb dM_step_80 rfl (lv_at hl 1 rfl) ?_
        refine va_get (D := (dC, dI)) (ci := 1) (v := .ref (r 6)) (C := "EventPatternsModel") (T := TM) (N := 16) hx hb hbw inM hown hK hP 0 rfl rfl 10 (by decide) (hbw _ kf_M_25) (fun _ h9 => h9) rfl dM_step_81 ?_
        refine lv_aload_n hx hb dM_step_84 rfl (lv_at hl 1 rfl) ?_
        refine va_get (D := (dC, dI)) (ci := 1) (v := .int (nI (ms))) (C := "EventPatternsModel") (T := TM) (N := 16) hx hb hbw inM hown hK hP 0 rfl rfl 7 (by decide) (hbw _ kf_M_63) (fun _ h9 => h9) (congrArg (fun z => some (Value.int z)) (hg4)) dM_step_85 ?_
        refine lv_iload_n hx hb dM_step_88 rfl (lv_at hl 4 rfl) ?_
        refine nr_iast hx hb hK hP hD hS 6 0 rfl rfl (j := ms) (by omega) (by decide) dM_step_89 (fun H locs hP hD hS => ?_)
        have hP : va_P (dC, dI) cls2 (mw r cI cZ (va_up (va_up (va_up (b) 3 (upd (b 3) (ms) (ki))) 4 (upd (b 4) (ms) (te))) 5 (upd (b 5) (ms) (nn))) (va_up (g) 0 (nI (mTh false false false)))) H := hP
        have hD : va_D A (mw r cI cZ (va_up (va_up (va_up (b) 3 (upd (b 3) (ms) (ki))) 4 (upd (b 4) (ms) (te))) 5 (upd (b 5) (ms) (nn))) (va_up (g) 0 (nI (mTh false false false)))) := hD
        refine lv_aload_n hx hb dM_step_90 rfl (lv_at hl 1 rfl) ?_
        refine va_get (D := (dC, dI)) (ci := 1) (v := .ref (r 7)) (C := "EventPatternsModel") (T := TM) (N := 16) hx hb hbw inM hown hK hP 0 rfl rfl 11 (by decide) (hbw _ kf_M_28) (fun _ h9 => h9) rfl dM_step_91 ?_
        refine lv_aload_n hx hb dM_step_94 rfl (lv_at hl 1 rfl) ?_
        refine va_get (D := (dC, dI)) (ci := 1) (v := .int (nI (ms))) (C := "EventPatternsModel") (T := TM) (N := 16) hx hb hbw inM hown hK hP 0 rfl rfl 7 (by decide) (hbw _ kf_M_63) (fun _ h9 => h9) (congrArg (fun z => some (Value.int z)) (hg4)) dM_step_95 ?_
        refine lv_iload hx hb dM_step_98 (lv_at hl 5 rfl) ?_
        refine nr_zast hx hb hK hP hD hS 7 1 rfl rfl (j := ms) (by omega) (by decide) dM_step_100 (fun H locs hP hD hS => ?_)
        have hP : va_P (dC, dI) cls2 (mw r cI cZ (va_up (va_up (va_up (va_up (b) 3 (upd (b 3) (ms) (ki))) 4 (upd (b 4) (ms) (te))) 5 (upd (b 5) (ms) (nn))) 6 (upd (b 6) (ms) (vp_nar .boolean (mb)))) (va_up (g) 0 (nI (mTh false false false)))) H := hP
        have hD : va_D A (mw r cI cZ (va_up (va_up (va_up (va_up (b) 3 (upd (b 3) (ms) (ki))) 4 (upd (b 4) (ms) (te))) 5 (upd (b 5) (ms) (nn))) 6 (upd (b 6) (ms) (vp_nar .boolean (mb)))) (va_up (g) 0 (nI (mTh false false false)))) := hD
        refine lv_aload_n hx hb dM_step_101 rfl (lv_at hl 1 rfl) ?_
        refine lv_dup hx hb dM_step_102 rfl ?_
        refine va_get (D := (dC, dI)) (ci := 1) (v := .int (nI (ms))) (C := "EventPatternsModel") (T := TM) (N := 16) hx hb hbw inM hown hK hP 0 rfl rfl 7 (by decide) (hbw _ kf_M_63) (fun _ h9 => h9) (congrArg (fun z => some (Value.int z)) (hg4)) dM_step_103 ?_
        refine lv_iconst (v := 1) hx hb dM_step_106 (by decide) ?_
        refine nr_iadd hx hb (a1 := ms) (b1 := 1) dM_step_107 ?_
        refine va_put (D := (dC, dI)) (ci := 1) (v := .int (nI (ms + 1))) (ty := .int) (C := "EventPatternsModel") (T := TM) (N := 16) hx hb hbw inM tyM okM nmM hown hK hP hD hS 0 rfl rfl 7 (by decide) (hbw _ kf_M_63) (fun _ h9 => h9) rfl (by decide +kernel) rfl rfl (Nat.le_of_ble_eq_true rfl) dM_step_108 (fun H locs hP hD hS => ?_)
        have hP : va_P (dC, dI) cls2 (mw r cI cZ (va_up (va_up (va_up (va_up (b) 3 (upd (b 3) (ms) (ki))) 4 (upd (b 4) (ms) (te))) 5 (upd (b 5) (ms) (nn))) 6 (upd (b 6) (ms) (vp_nar .boolean (mb)))) (va_up (va_up (g) 0 (nI (mTh false false false))) 4 (nI (ms + 1)))) H := hP
        have hD : va_D A (mw r cI cZ (va_up (va_up (va_up (va_up (b) 3 (upd (b 3) (ms) (ki))) 4 (upd (b 4) (ms) (te))) 5 (upd (b 5) (ms) (nn))) 6 (upd (b 6) (ms) (vp_nar .boolean (mb)))) (va_up (va_up (g) 0 (nI (mTh false false false))) 4 (nI (ms + 1)))) := hD
        refine lv_aload_n hx hb dM_step_111 rfl (lv_at hl 1 rfl) ?_
        refine va_get (D := (dC, dI)) (ci := 1) (v := .int (nI (ms + 1))) (C := "EventPatternsModel") (T := TM) (N := 16) hx hb hbw inM hown hK hP 0 rfl rfl 7 (by decide) (hbw _ kf_M_63) (fun _ h9 => h9) rfl dM_step_112 ?_
        refine lv_iconst (v := 1) hx hb dM_step_115 (by decide) ?_
        refine nr_isub hx hb (a1 := ms + 1) (b1 := 1) (by omega) dM_step_116 ?_
        have hT : mStT ms ki te = 0 := by first | (rw [mStT, c_8, c_17, decide_eq_true c_43]; rfl) | (rw [mStT, c_8, c_17, decide_eq_false c_43]; rfl) | (rw [mStT, c_8, decide_eq_true c_43]; rfl) | (rw [mStT, c_8, decide_eq_false c_43]; rfl)
        exact W.iret (v := nI ((ms + 1) - 1)) hx hb hr (fun t ht hW => ⟨⟨nI ((ms + 1) - 1), (mStB b ms ki te nn mb, va_up (va_up g 0 (nI (mTh false false false))) 4 (nI (ms + 1))), rfl, ⟨fun _ => ⟨by rw [Nat.add_sub_cancel], rfl⟩, fun h9 => absurd hT h9⟩, by rw [ht]; exact hP, va_K.moved hW.alike hK, hD⟩, hS.F ht⟩) hS.2.2 dM_step_117
      · refine lv_iconst (v := 1) hx hb dM_step_46 (by decide) ?_
        refine lv_goto (tgt := 51) hx hb dM_step_47 (by decide) ?_
        refine lv_iconst (v := 0) hx hb dM_step_51 (by decide) ?_
        have hFc := va_free (wc := mw r cI cZ (b) (g)) hD hS hA (List.range 11) rfl
        refine va_calli (va_runV (As := [.int (0), .int (1), .int (0)]) (rest := []) ⟨hx, hb, hml, hown, hbw⟩ (tM_refuse l dC dI r cI cZ cG (b) (g) s.heap.size false true false) (cwV 3 hbw (bw_V km_M_53 ki_yM_refuse ksel_yM_refuse ki_EventPatternsModel kcM_refuse) rfl rfl rfl (by decide +kernel) ⟨Nat.le_of_ble_eq_true rfl, Nat.le_of_ble_eq_true rfl⟩) ⟨fun a U g mk q => by obtain ⟨q0, q1, qP, qK, qD⟩ := q; exact ⟨q0, q1, qP, va_K.moved (u := U) (U := U.calling g mk a) (Vm.Alike.refl U.vm) qK, qD⟩, va_recv hK hP (ci := 1) (q0 := 0) rfl rfl, fun U hU hW => ⟨rfl, by rw [hU], by rw [hU]; exact hP, va_K.moved hW.alike hK, hD.weaken (fun _ _ _ _ => trivial)⟩⟩ rfl rfl hl.1 rfl (lv_room (Nat.le_of_ble_eq_true rfl)) dM_step_52 ⟨Nat.le_of_ble_eq_true rfl, Nat.le_of_ble_eq_true rfl⟩) hS (fun q _ h => hFc q h) hFc (fun r_52 u t H1 locs ht hvm hq hB hz1 hk1 hS => ?_)
        obtain ⟨hq1, hq⟩ := hq
        have hq1 : r_52 = 1 := hq1
        subst hq1
        obtain rfl := hq
        obtain ⟨hP1, hK1, hD1⟩ := hB
        rw [ht] at hP1
        have hP : va_P (dC, dI) cls2 (mw r cI cZ (b) (va_up (g) 0 (nI (mTh false true false)))) H1 := hP1
        have hD : va_D A (mw r cI cZ (b) (va_up (g) 0 (nI (mTh false true false)))) := hD1.weaken (fun _ _ _ h => hFc _ h)
        generalize H1 = H at hP hS ⊢
        refine lv_if_eq (tgt := 60) hx hb dM_step_55 (by decide) (fun c9 => absurd c9 (by decide)) (fun _ => ?_)
        refine lv_iconst (v := 0) hx hb dM_step_58 (by decide) ?_
        have hT : mStT ms ki te = mTh false true false := by first | (rw [mStT, c_8, c_17, decide_eq_true c_43]; rfl) | (rw [mStT, c_8, c_17, decide_eq_false c_43]; rfl) | (rw [mStT, c_8, decide_eq_true c_43]; rfl) | (rw [mStT, c_8, decide_eq_false c_43]; rfl)
        rw [← hT] at hP hD
        exact W.iret (v := 0) hx hb hr (fun t ht hW => ⟨⟨0, (b, va_up g 0 (nI (mStT ms ki te))), rfl, ⟨fun h9 => absurd h9 (by rw [hT]; decide), fun _ => rfl⟩, by rw [ht]; exact hP, va_K.moved hW.alike hK, hD⟩, hS.F ht⟩) hS.2.2 dM_step_59
