set_option maxHeartbeats 4000000 in
set_option maxRecDepth 100000 in
/-- event(time, kind, value) -/
theorem tX_event (l : Launch) (dC : Nat → ClassId) (dI : Nat → Nat → Nat) (q : Nat → Nat) (cI cZ cG : ClassId) (a : Nat → Nat → Int32) (f : Nat → Int32) (w : Nat → Nat → Int32) (sz : Nat) (n cm : Nat) (tm kd va : Int32) (hn : n ≤ 16) (hf1 : f 1 = nI n) (hcm : cm ≤ 400) (hf0 : f 0 = nI cm) : vx_Met l yX_event wX_event ({ frames := 6, cells := 1, slots := 6, locals := 90 }) (va_Pc [.ref (q 0), .int (tm), .int (kd), .int (va)] (fun U => U.heap.size = sz ∧ va_P (dC, dI) cls2 (xw q cI cZ cG a f w) U.heap ∧ va_K (dC, dI) cls2 (xt cI cZ cG) U ∧ va_D (fun _ => True) (xw q cI cZ cG a f w) ∧ xE l (va_A (xw q cI cZ cG a f w) sz) U U.heap)) (va_Qi (fun (r0 : Int32) (u : XS) => (¬ evBad a n tm kd ∧ cm < 400) ∧ r0 = nI cm ∧ u = xEv a f w n cm tm kd va) (atX dC dI q cI cZ cG (va_A (xw q cI cZ cG a f w) sz)) (va_A (xw q cI cZ cG a f w) sz)) (vx_X (fun u : XS => u = (a, f, w)) (fun E u t => (E = "java/lang/IllegalArgumentException" ∧ evBad a n tm kd ∨ E = "java/lang/UnsupportedOperationException" ∧ ¬ evBad a n tm kd ∧ cm = 400) ∧ atX dC dI q cI cZ cG (va_A (xw q cI cZ cG a f w) sz) u t) (va_A (xw q cI cZ cG a f w) sz)) 1 6 (va_A (xw q cI cZ cG a f w) sz) := by
  refine vx_ofW (cc := cX_event) (maxL := 4) (ret := (some .int)) (by decide) rfl ?_
  intro p e s m args below meth c s₁ B hml hno hv
  obtain ⟨rfl, hsz, hP, hK, hD0, hE⟩ := hv
  have hx := B.exec
  have hb := B.bytes
  have hr := B.returns
  have hbw : ∀ w ∈ bw, w.before _ s = true := fun w h => atoms_spec (ws := wX_event) B.pre w (List.mem_cons_of_mem _ h)
  have hown : s.vm.findClass "EventPatterns" = some m.cls := findClass_of_methodNamed B.named
  have hlocks := B.notSynchronized
  subst hsz
  have hD := hD0.self (sz := s.heap.size)
  generalize hAe : va_A (xw q cI cZ cG a f w) s.heap.size = A at hD hE ⊢
  have hA : ∀ q : Nat, s.heap.size ≤ q → A q := fun q h => by rw [← hAe]; exact Or.inr h
  have hS : va_S A s.heap s.heap [] := va_S.rf
  have hl := lv_entry ([.ref (q 0), .int (tm), .int (kd), .int (va)]) (n := 4) (Nat.le_of_ble_eq_true rfl)
  rw [lg_entry_eq]
  generalize (lg_sl ([.ref (q 0), .int (tm), .int (kd), .int (va)]) ++ List.replicate (4 - (lg_sl ([.ref (q 0), .int (tm), .int (kd), .int (va)])).length) Slot.unset).toArray = ls at hl ⊢
  have hl : lv_has ls 4 [(0, .ref (q 0)), (1, .int (tm)), (2, .int (kd)), (3, .int (va))] := hl
  refine lv_iload_n hx hb dX_event_0 rfl (lv_at hl 1 rfl) ?_
  refine lv_aload_n hx hb dX_event_1 rfl (lv_at hl 0 rfl) ?_
  refine vp_callSi (W.runV (As := []) (rest := [.int (tm)]) ⟨hx, hb, hml, hown, hbw⟩ (tX_earliestTime l dC dI q cI cZ cG a f w n hn hf1) (cwV 0 hbw (bw_V km_X_62 ki_yX_earliestTime ksel_yX_earliestTime ki_EventPatterns kcX_earliestTime) rfl rfl rfl (by decide +kernel) ⟨Nat.le_of_ble_eq_true rfl, Nat.le_of_ble_eq_true rfl⟩) ⟨fun a U g mk q => by obtain ⟨q0, qP, qK⟩ := q; exact ⟨q0, qP, va_K.moved (u := U) (U := U.calling g mk a) (Vm.Alike.refl U.vm) qK⟩, va_recv hK hP (ci := 0) (q0 := 0) rfl rfl, fun U hU hW => ⟨rfl, by rw [hU]; exact hP, va_K.moved hW.alike hK⟩⟩ rfl rfl hl.1 rfl (lv_room (Nat.le_of_ble_eq_true rfl)) dX_event_2 ⟨Nat.le_of_ble_eq_true rfl, Nat.le_of_ble_eq_true rfl⟩) (fun r_2 hq => ?_)
  have hq : r_2 = xLate a n := hq
  subst hq
  refine lv_icmp_lt (tgt := 14) hx hb dX_event_5 (by decide) (fun c_5 => ?_) (fun c_5 => ?_)
  · obtain ⟨sa, hstr⟩ := hE.2.2.2.2 (69, "no such time here") (by decide)
    exact vx_throwS (text := "no such time here") (names := ["java/lang/RuntimeException", "java/lang/Exception"]) hx hb hE.1 hown (by decide) (by decide) (hbw _ kl_X_67) (hbw _ ki_java_lang_IllegalArgumentException) hstr (xat_IAE hbw hE) xgd_IAE hE.2.1 hE.2.2.1 hS (hl.1.trans hml.symm) dX_event_14 dX_event_17 dX_event_18 dX_event_20 dX_event_23 (fun x hx => (hno x hx).elim) (Nat.le_of_ble_eq_true rfl) (Nat.le_of_ble_eq_true rfl) (Nat.le_of_ble_eq_true rfl) (Nat.le_of_ble_eq_true rfl) hlocks (fun t hal hle hkeep => ⟨(a, f, w), rfl, ⟨Or.inl ⟨rfl, by first | exact Or.inl c_5 | exact Or.inr (Or.inl (Int32.not_le.mp c_11)) | exact Or.inr (Or.inr (Or.inl c_25)) | exact Or.inr (Or.inr (Or.inr (Int32.not_le.mp c_31)))⟩, hP.kept (fun k q hk => hkeep q.1 ((hP k q hk).lt)), va_K.moved hal hK, hD⟩, ⟨Nat.le_trans hS.1 hle, fun q h1 h2 => (hkeep q (Nat.lt_of_lt_of_le h1 hS.1)).trans (hS.2.1 q h1 h2)⟩⟩) hS.2.2 (Nat.le_of_ble_eq_true rfl) (Nat.le_of_ble_eq_true rfl)
  · refine lv_iload_n hx hb dX_event_8 rfl (lv_at hl 1 rfl) ?_
    refine lv_ldc (v := 1000000) hx hb hown (hbw _ kk_X_66) dX_event_9 ?_
    refine lv_icmp_le (tgt := 24) hx hb dX_event_11 (by decide) (fun c_11 => ?_) (fun c_11 => ?_)
    · refine lv_iload_n hx hb dX_event_24 rfl (lv_at hl 2 rfl) ?_
      refine lv_if_lt (tgt := 34) hx hb dX_event_25 (by decide) (fun c_25 => ?_) (fun c_25 => ?_)
      · obtain ⟨sa, hstr⟩ := hE.2.2.2.2 (74, "no such kind") (by decide)
        exact vx_throwS (text := "no such kind") (names := ["java/lang/RuntimeException", "java/lang/Exception"]) hx hb hE.1 hown (by decide) (by decide) (hbw _ kl_X_67) (hbw _ ki_java_lang_IllegalArgumentException) hstr (xat_IAE hbw hE) xgd_IAE hE.2.1 hE.2.2.1 hS (hl.1.trans hml.symm) dX_event_34 dX_event_37 dX_event_38 dX_event_40 dX_event_43 (fun x hx => (hno x hx).elim) (Nat.le_of_ble_eq_true rfl) (Nat.le_of_ble_eq_true rfl) (Nat.le_of_ble_eq_true rfl) (Nat.le_of_ble_eq_true rfl) hlocks (fun t hal hle hkeep => ⟨(a, f, w), rfl, ⟨Or.inl ⟨rfl, by first | exact Or.inl c_5 | exact Or.inr (Or.inl (Int32.not_le.mp c_11)) | exact Or.inr (Or.inr (Or.inl c_25)) | exact Or.inr (Or.inr (Or.inr (Int32.not_le.mp c_31)))⟩, hP.kept (fun k q hk => hkeep q.1 ((hP k q hk).lt)), va_K.moved hal hK, hD⟩, ⟨Nat.le_trans hS.1 hle, fun q h1 h2 => (hkeep q (Nat.lt_of_lt_of_le h1 hS.1)).trans (hS.2.1 q h1 h2)⟩⟩) hS.2.2 (Nat.le_of_ble_eq_true rfl) (Nat.le_of_ble_eq_true rfl)
      · refine lv_iload_n hx hb dX_event_28 rfl (lv_at hl 2 rfl) ?_
        refine lv_bipush (v := 7) hx hb dX_event_29 (by decide) ?_
        refine lv_icmp_le (tgt := 44) hx hb dX_event_31 (by decide) (fun c_31 => ?_) (fun c_31 => ?_)
        · refine lv_aload_n hx hb dX_event_44 rfl (lv_at hl 0 rfl) ?_
          refine va_get (D := (dC, dI)) (ci := 0) (v := .int (nI (cm))) (C := "EventPatterns") (T := TX) (N := 16) hx hb hbw inX hown hK hP 0 rfl rfl 3 (by decide) (hbw _ kf_X_43) (fun _ h9 => h9) (congrArg (fun z => some (Value.int z)) (hf0)) dX_event_45 ?_
          refine lv_sipush (v := 400) hx hb dX_event_48 (by decide) ?_
          refine nr_icmp_lt (tgt := 64) hx hb (a1 := cm) (b1 := 400) (by omega) (by omega) dX_event_51 (by decide) (fun c_51 => ?_) (fun c_51 => ?_)
          · refine lv_aload_n hx hb dX_event_64 rfl (lv_at hl 0 rfl) ?_
            refine va_get (D := (dC, dI)) (ci := 0) (v := .int (nI (n))) (C := "EventPatterns") (T := TX) (N := 16) hx hb hbw inX hown hK hP 0 rfl rfl 4 (by decide) (hbw _ kf_X_47) (fun _ h9 => h9) (congrArg (fun z => some (Value.int z)) (hf1)) dX_event_65 ?_
            refine lv_bipush (v := 16) hx hb dX_event_68 (by decide) ?_
            refine nr_icmp_lt (tgt := 77) hx hb (a1 := n) (b1 := 16) (by omega) (by omega) dX_event_70 (by decide) (fun c_70 => ?_) (fun c_70 => ?_)
            · refine lv_aload_n hx hb dX_event_77 rfl (lv_at hl 0 rfl) ?_
              refine va_get (D := (dC, dI)) (ci := 0) (v := .ref (q 1)) (C := "EventPatterns") (T := TX) (N := 16) hx hb hbw inX hown hK hP 0 rfl rfl 0 (by decide) (hbw _ kf_X_9) (fun _ h9 => h9) rfl dX_event_78 ?_
              refine lv_aload_n hx hb dX_event_81 rfl (lv_at hl 0 rfl) ?_
              refine va_get (D := (dC, dI)) (ci := 0) (v := .int (nI (n))) (C := "EventPatterns") (T := TX) (N := 16) hx hb hbw inX hown hK hP 0 rfl rfl 4 (by decide) (hbw _ kf_X_47) (fun _ h9 => h9) (congrArg (fun z => some (Value.int z)) (hf1)) dX_event_82 ?_
              refine lv_iload_n hx hb dX_event_85 rfl (lv_at hl 1 rfl) ?_
              refine nr_iast hx hb hK hP hD hS 1 0 rfl rfl (j := n) (by omega) (by decide) dX_event_86 (fun H locs hP hD hS => ?_)
              have hP : va_P (dC, dI) cls2 (xw q cI cZ cG (va_up (a) 0 (upd (a 0) (n) (tm))) (f) (w)) H := hP
              have hD : va_D A (xw q cI cZ cG (va_up (a) 0 (upd (a 0) (n) (tm))) (f) (w)) := hD
              refine lv_aload_n hx hb dX_event_87 rfl (lv_at hl 0 rfl) ?_
              refine va_get (D := (dC, dI)) (ci := 0) (v := .ref (q 2)) (C := "EventPatterns") (T := TX) (N := 16) hx hb hbw inX hown hK hP 0 rfl rfl 1 (by decide) (hbw _ kf_X_13) (fun _ h9 => h9) rfl dX_event_88 ?_
              refine lv_aload_n hx hb dX_event_91 rfl (lv_at hl 0 rfl) ?_
              refine va_get (D := (dC, dI)) (ci := 0) (v := .int (nI (n))) (C := "EventPatterns") (T := TX) (N := 16) hx hb hbw inX hown hK hP 0 rfl rfl 4 (by decide) (hbw _ kf_X_47) (fun _ h9 => h9) (congrArg (fun z => some (Value.int z)) (hf1)) dX_event_92 ?_
              refine lv_iload_n hx hb dX_event_95 rfl (lv_at hl 2 rfl) ?_
              refine nr_iast hx hb hK hP hD hS 2 0 rfl rfl (j := n) (by omega) (by decide) dX_event_96 (fun H locs hP hD hS => ?_)
              have hP : va_P (dC, dI) cls2 (xw q cI cZ cG (va_up (va_up (a) 0 (upd (a 0) (n) (tm))) 1 (upd (a 1) (n) (kd))) (f) (w)) H := hP
              have hD : va_D A (xw q cI cZ cG (va_up (va_up (a) 0 (upd (a 0) (n) (tm))) 1 (upd (a 1) (n) (kd))) (f) (w)) := hD
              refine lv_aload_n hx hb dX_event_97 rfl (lv_at hl 0 rfl) ?_
              refine va_get (D := (dC, dI)) (ci := 0) (v := .ref (q 3)) (C := "EventPatterns") (T := TX) (N := 16) hx hb hbw inX hown hK hP 0 rfl rfl 2 (by decide) (hbw _ kf_X_16) (fun _ h9 => h9) rfl dX_event_98 ?_
              refine lv_aload_n hx hb dX_event_101 rfl (lv_at hl 0 rfl) ?_
              refine va_get (D := (dC, dI)) (ci := 0) (v := .int (nI (n))) (C := "EventPatterns") (T := TX) (N := 16) hx hb hbw inX hown hK hP 0 rfl rfl 4 (by decide) (hbw _ kf_X_47) (fun _ h9 => h9) (congrArg (fun z => some (Value.int z)) (hf1)) dX_event_102 ?_
              refine lv_iload_n hx hb dX_event_105 rfl (lv_at hl 3 rfl) ?_
              refine nr_iast hx hb hK hP hD hS 3 0 rfl rfl (j := n) (by omega) (by decide) dX_event_106 (fun H locs hP hD hS => ?_)
              have hP : va_P (dC, dI) cls2 (xw q cI cZ cG (va_up (va_up (va_up (a) 0 (upd (a 0) (n) (tm))) 1 (upd (a 1) (n) (kd))) 2 (upd (a 2) (n) (va))) (f) (w)) H := hP
              have hD : va_D A (xw q cI cZ cG (va_up (va_up (va_up (a) 0 (upd (a 0) (n) (tm))) 1 (upd (a 1) (n) (kd))) 2 (upd (a 2) (n) (va))) (f) (w)) := hD
              refine lv_aload_n hx hb dX_event_107 rfl (lv_at hl 0 rfl) ?_
              refine lv_dup hx hb dX_event_108 rfl ?_
              refine va_get (D := (dC, dI)) (ci := 0) (v := .int (nI (n))) (C := "EventPatterns") (T := TX) (N := 16) hx hb hbw inX hown hK hP 0 rfl rfl 4 (by decide) (hbw _ kf_X_47) (fun _ h9 => h9) (congrArg (fun z => some (Value.int z)) (hf1)) dX_event_109 ?_
              refine lv_iconst (v := 1) hx hb dX_event_112 (by decide) ?_
              refine nr_iadd hx hb (a1 := n) (b1 := 1) dX_event_113 ?_
              refine va_put (D := (dC, dI)) (ci := 0) (v := .int (nI (n + 1))) (ty := .int) (C := "EventPatterns") (T := TX) (N := 16) hx hb hbw inX tyX okX nmX hown hK hP hD hS 0 rfl rfl 4 (by decide) (hbw _ kf_X_47) (fun _ h9 => h9) rfl (by decide +kernel) rfl rfl (Nat.le_of_ble_eq_true rfl) dX_event_114 (fun H locs hP hD hS => ?_)
              have hP : va_P (dC, dI) cls2 (xw q cI cZ cG (va_up (va_up (va_up (a) 0 (upd (a 0) (n) (tm))) 1 (upd (a 1) (n) (kd))) 2 (upd (a 2) (n) (va))) (va_up (f) 1 (nI (n + 1))) (w)) H := hP
              have hD : va_D A (xw q cI cZ cG (va_up (va_up (va_up (a) 0 (upd (a 0) (n) (tm))) 1 (upd (a 1) (n) (kd))) 2 (upd (a 2) (n) (va))) (va_up (f) 1 (nI (n + 1))) (w)) := hD
              refine lv_aload_n hx hb dX_event_117 rfl (lv_at hl 0 rfl) ?_
              refine lv_dup hx hb dX_event_118 rfl ?_
              refine va_get (D := (dC, dI)) (ci := 0) (v := .int (nI (cm))) (C := "EventPatterns") (T := TX) (N := 16) hx hb hbw inX hown hK hP 0 rfl rfl 3 (by decide) (hbw _ kf_X_43) (fun _ h9 => h9) (congrArg (fun z => some (Value.int z)) (hf0)) dX_event_119 ?_
              refine lv_iconst (v := 1) hx hb dX_event_122 (by decide) ?_
              refine nr_iadd hx hb (a1 := cm) (b1 := 1) dX_event_123 ?_
              refine va_put (D := (dC, dI)) (ci := 0) (v := .int (nI (cm + 1))) (ty := .int) (C := "EventPatterns") (T := TX) (N := 16) hx hb hbw inX tyX okX nmX hown hK hP hD hS 0 rfl rfl 3 (by decide) (hbw _ kf_X_43) (fun _ h9 => h9) rfl (by decide +kernel) rfl rfl (Nat.le_of_ble_eq_true rfl) dX_event_124 (fun H locs hP hD hS => ?_)
              have hP : va_P (dC, dI) cls2 (xw q cI cZ cG (va_up (va_up (va_up (a) 0 (upd (a 0) (n) (tm))) 1 (upd (a 1) (n) (kd))) 2 (upd (a 2) (n) (va))) (va_up (va_up (f) 1 (nI (n + 1))) 0 (nI (cm + 1))) (w)) H := hP
              have hD : va_D A (xw q cI cZ cG (va_up (va_up (va_up (a) 0 (upd (a 0) (n) (tm))) 1 (upd (a 1) (n) (kd))) 2 (upd (a 2) (n) (va))) (va_up (va_up (f) 1 (nI (n + 1))) 0 (nI (cm + 1))) (w)) := hD
              refine lv_aload_n hx hb dX_event_127 rfl (lv_at hl 0 rfl) ?_
              refine va_get (D := (dC, dI)) (ci := 0) (v := .int (nI (cm + 1))) (C := "EventPatterns") (T := TX) (N := 16) hx hb hbw inX hown hK hP 0 rfl rfl 3 (by decide) (hbw _ kf_X_43) (fun _ h9 => h9) rfl dX_event_128 ?_
              refine lv_iconst (v := 1) hx hb dX_event_131 (by decide) ?_
              refine nr_isub hx hb (a1 := cm + 1) (b1 := 1) (by omega) dX_event_132 ?_
              refine vx_ret ?_
              refine W.widen (k := 1) (n := 6) (by omega) (by omega) ?_
              exact W.iret (v := nI ((cm + 1) - 1)) hx hb hr (fun t ht hW => ⟨⟨nI ((cm + 1) - 1), (xEvA a n tm kd va, va_up (va_up (f) 1 (nI (n + 1))) 0 (nI (cm + 1)), w), rfl, ⟨⟨by rintro (h | h | h | h) <;> first | exact c_5 h | exact absurd c_11 (Int32.not_le.mpr h) | exact c_25 h | exact absurd c_31 (Int32.not_le.mpr h), by omega⟩, by rw [Nat.add_sub_cancel], by rw [xEv, if_pos (by omega)]⟩, by rw [ht]; exact hP, va_K.moved hW.alike hK, hD⟩, hS.F ht⟩) hS.2.2 dX_event_133
            · refine lv_aload_n hx hb dX_event_73 rfl (lv_at hl 0 rfl) ?_
              have hFc := va_free (wc := xw q cI cZ cG (a) (f) (w)) hD hS hA (List.range 27) rfl
              refine va_callv (va_runV (As := []) (rest := []) ⟨hx, hb, hml, hown, hbw⟩ (tX_dropOldest l dC dI q cI cZ cG a f w s.heap.size) (cwV 0 hbw (bw_V km_X_81 ki_yX_dropOldest ksel_yX_dropOldest ki_EventPatterns kcX_dropOldest) rfl rfl rfl (by decide +kernel) ⟨Nat.le_of_ble_eq_true rfl, Nat.le_of_ble_eq_true rfl⟩) ⟨fun a U g mk q => by obtain ⟨q0, q1, qP, qK, qD⟩ := q; exact ⟨q0, q1, qP, va_K.moved (u := U) (U := U.calling g mk a) (Vm.Alike.refl U.vm) qK, qD⟩, va_recv hK hP (ci := 0) (q0 := 0) rfl rfl, fun U hU hW => ⟨rfl, by rw [hU], by rw [hU]; exact hP, va_K.moved hW.alike hK, hD.weaken (fun _ _ _ _ => trivial)⟩⟩ rfl rfl hl.1 rfl (lv_room (Nat.le_of_ble_eq_true rfl)) dX_event_74 ⟨Nat.le_of_ble_eq_true rfl, Nat.le_of_ble_eq_true rfl⟩) hS (fun q _ h => hFc q h) hFc (fun u t H1 locs ht hvm hq hB hz1 hk1 hS => ?_)
              obtain ⟨a1, hdr, rfl⟩ := hq
              obtain ⟨hP1, hK1, hD1⟩ := hB
              rw [ht] at hP1
              have hP : va_P (dC, dI) cls2 (xw q cI cZ cG (a1) (va_up f 1 15) (w)) H1 := hP1
              have hD : va_D A (xw q cI cZ cG (a1) (va_up f 1 15) (w)) := hD1.weaken (fun _ _ _ h => hFc _ h)
              generalize H1 = H at hP hS ⊢
              refine lv_aload_n hx hb dX_event_77 rfl (lv_at hl 0 rfl) ?_
              refine va_get (D := (dC, dI)) (ci := 0) (v := .ref (q 1)) (C := "EventPatterns") (T := TX) (N := 16) hx hb hbw inX hown hK hP 0 rfl rfl 0 (by decide) (hbw _ kf_X_9) (fun _ h9 => h9) rfl dX_event_78 ?_
              refine lv_aload_n hx hb dX_event_81 rfl (lv_at hl 0 rfl) ?_
              refine va_get (D := (dC, dI)) (ci := 0) (v := .int (15)) (C := "EventPatterns") (T := TX) (N := 16) hx hb hbw inX hown hK hP 0 rfl rfl 4 (by decide) (hbw _ kf_X_47) (fun _ h9 => h9) rfl dX_event_82 ?_
              refine lv_iload_n hx hb dX_event_85 rfl (lv_at hl 1 rfl) ?_
              refine nr_iast hx hb hK hP hD hS 1 0 rfl rfl (j := 15) (by omega) (by decide) dX_event_86 (fun H locs hP hD hS => ?_)
              have hP : va_P (dC, dI) cls2 (xw q cI cZ cG (va_up (a1) 0 (upd (a1 0) (15) (tm))) (va_up f 1 15) (w)) H := hP
              have hD : va_D A (xw q cI cZ cG (va_up (a1) 0 (upd (a1 0) (15) (tm))) (va_up f 1 15) (w)) := hD
              refine lv_aload_n hx hb dX_event_87 rfl (lv_at hl 0 rfl) ?_
              refine va_get (D := (dC, dI)) (ci := 0) (v := .ref (q 2)) (C := "EventPatterns") (T := TX) (N := 16) hx hb hbw inX hown hK hP 0 rfl rfl 1 (by decide) (hbw _ kf_X_13) (fun _ h9 => h9) rfl dX_event_88 ?_
              refine lv_aload_n hx hb dX_event_91 rfl (lv_at hl 0 rfl) ?_
              refine va_get (D := (dC, dI)) (ci := 0) (v := .int (15)) (C := "EventPatterns") (T := TX) (N := 16) hx hb hbw inX hown hK hP 0 rfl rfl 4 (by decide) (hbw _ kf_X_47) (fun _ h9 => h9) rfl dX_event_92 ?_
              refine lv_iload_n hx hb dX_event_95 rfl (lv_at hl 2 rfl) ?_
              refine nr_iast hx hb hK hP hD hS 2 0 rfl rfl (j := 15) (by omega) (by decide) dX_event_96 (fun H locs hP hD hS => ?_)
              have hP : va_P (dC, dI) cls2 (xw q cI cZ cG (va_up (va_up (a1) 0 (upd (a1 0) (15) (tm))) 1 (upd (a1 1) (15) (kd))) (va_up f 1 15) (w)) H := hP
              have hD : va_D A (xw q cI cZ cG (va_up (va_up (a1) 0 (upd (a1 0) (15) (tm))) 1 (upd (a1 1) (15) (kd))) (va_up f 1 15) (w)) := hD
              refine lv_aload_n hx hb dX_event_97 rfl (lv_at hl 0 rfl) ?_
              refine va_get (D := (dC, dI)) (ci := 0) (v := .ref (q 3)) (C := "EventPatterns") (T := TX) (N := 16) hx hb hbw inX hown hK hP 0 rfl rfl 2 (by decide) (hbw _ kf_X_16) (fun _ h9 => h9) rfl dX_event_98 ?_
              refine lv_aload_n hx hb dX_event_101 rfl (lv_at hl 0 rfl) ?_
              refine va_get (D := (dC, dI)) (ci := 0) (v := .int (15)) (C := "EventPatterns") (T := TX) (N := 16) hx hb hbw inX hown hK hP 0 rfl rfl 4 (by decide) (hbw _ kf_X_47) (fun _ h9 => h9) rfl dX_event_102 ?_
              refine lv_iload_n hx hb dX_event_105 rfl (lv_at hl 3 rfl) ?_
              refine nr_iast hx hb hK hP hD hS 3 0 rfl rfl (j := 15) (by omega) (by decide) dX_event_106 (fun H locs hP hD hS => ?_)
              have hP : va_P (dC, dI) cls2 (xw q cI cZ cG (va_up (va_up (va_up (a1) 0 (upd (a1 0) (15) (tm))) 1 (upd (a1 1) (15) (kd))) 2 (upd (a1 2) (15) (va))) (va_up f 1 15) (w)) H := hP
              have hD : va_D A (xw q cI cZ cG (va_up (va_up (va_up (a1) 0 (upd (a1 0) (15) (tm))) 1 (upd (a1 1) (15) (kd))) 2 (upd (a1 2) (15) (va))) (va_up f 1 15) (w)) := hD
              refine lv_aload_n hx hb dX_event_107 rfl (lv_at hl 0 rfl) ?_
              refine lv_dup hx hb dX_event_108 rfl ?_
              refine va_get (D := (dC, dI)) (ci := 0) (v := .int (15)) (C := "EventPatterns") (T := TX) (N := 16) hx hb hbw inX hown hK hP 0 rfl rfl 4 (by decide) (hbw _ kf_X_47) (fun _ h9 => h9) rfl dX_event_109 ?_
              refine lv_iconst (v := 1) hx hb dX_event_112 (by decide) ?_
              refine nr_iadd hx hb (a1 := 15) (b1 := 1) dX_event_113 ?_
              refine va_put (D := (dC, dI)) (ci := 0) (v := .int (nI (15 + 1))) (ty := .int) (C := "EventPatterns") (T := TX) (N := 16) hx hb hbw inX tyX okX nmX hown hK hP hD hS 0 rfl rfl 4 (by decide) (hbw _ kf_X_47) (fun _ h9 => h9) rfl (by decide +kernel) rfl rfl (Nat.le_of_ble_eq_true rfl) dX_event_114 (fun H locs hP hD hS => ?_)
              have hP : va_P (dC, dI) cls2 (xw q cI cZ cG (va_up (va_up (va_up (a1) 0 (upd (a1 0) (15) (tm))) 1 (upd (a1 1) (15) (kd))) 2 (upd (a1 2) (15) (va))) (va_up (va_up f 1 15) 1 (nI (15 + 1))) (w)) H := hP
              have hD : va_D A (xw q cI cZ cG (va_up (va_up (va_up (a1) 0 (upd (a1 0) (15) (tm))) 1 (upd (a1 1) (15) (kd))) 2 (upd (a1 2) (15) (va))) (va_up (va_up f 1 15) 1 (nI (15 + 1))) (w)) := hD
              refine lv_aload_n hx hb dX_event_117 rfl (lv_at hl 0 rfl) ?_
              refine lv_dup hx hb dX_event_118 rfl ?_
              refine va_get (D := (dC, dI)) (ci := 0) (v := .int (nI (cm))) (C := "EventPatterns") (T := TX) (N := 16) hx hb hbw inX hown hK hP 0 rfl rfl 3 (by decide) (hbw _ kf_X_43) (fun _ h9 => h9) (congrArg (fun z => some (Value.int z)) (hf0)) dX_event_119 ?_
              refine lv_iconst (v := 1) hx hb dX_event_122 (by decide) ?_
              refine nr_iadd hx hb (a1 := cm) (b1 := 1) dX_event_123 ?_
              refine va_put (D := (dC, dI)) (ci := 0) (v := .int (nI (cm + 1))) (ty := .int) (C := "EventPatterns") (T := TX) (N := 16) hx hb hbw inX tyX okX nmX hown hK hP hD hS 0 rfl rfl 3 (by decide) (hbw _ kf_X_43) (fun _ h9 => h9) rfl (by decide +kernel) rfl rfl (Nat.le_of_ble_eq_true rfl) dX_event_124 (fun H locs hP hD hS => ?_)
              have hP : va_P (dC, dI) cls2 (xw q cI cZ cG (va_up (va_up (va_up (a1) 0 (upd (a1 0) (15) (tm))) 1 (upd (a1 1) (15) (kd))) 2 (upd (a1 2) (15) (va))) (va_up (va_up (va_up f 1 15) 1 (nI (15 + 1))) 0 (nI (cm + 1))) (w)) H := hP
              have hD : va_D A (xw q cI cZ cG (va_up (va_up (va_up (a1) 0 (upd (a1 0) (15) (tm))) 1 (upd (a1 1) (15) (kd))) 2 (upd (a1 2) (15) (va))) (va_up (va_up (va_up f 1 15) 1 (nI (15 + 1))) 0 (nI (cm + 1))) (w)) := hD
              refine lv_aload_n hx hb dX_event_127 rfl (lv_at hl 0 rfl) ?_
              refine va_get (D := (dC, dI)) (ci := 0) (v := .int (nI (cm + 1))) (C := "EventPatterns") (T := TX) (N := 16) hx hb hbw inX hown hK hP 0 rfl rfl 3 (by decide) (hbw _ kf_X_43) (fun _ h9 => h9) rfl dX_event_128 ?_
              refine lv_iconst (v := 1) hx hb dX_event_131 (by decide) ?_
              refine nr_isub hx hb (a1 := cm + 1) (b1 := 1) (by omega) dX_event_132 ?_
              refine vx_ret ?_
              refine W.widen (k := 1) (n := 6) (by omega) (by omega) ?_
              exact W.iret (v := nI ((cm + 1) - 1)) hx hb hr (fun t ht hW => ⟨⟨nI ((cm + 1) - 1), (xEvA a1 15 tm kd va, va_up (va_up (va_up f 1 15) 1 (nI (15 + 1))) 0 (nI (cm + 1)), w), rfl, ⟨⟨by rintro (h | h | h | h) <;> first | exact c_5 h | exact absurd c_11 (Int32.not_le.mpr h) | exact c_25 h | exact absurd c_31 (Int32.not_le.mpr h), by omega⟩, by rw [Nat.add_sub_cancel], by rw [xEv, if_neg (by omega), ← hdr]⟩, by rw [ht]; exact hP, va_K.moved hW.alike hK, hD⟩, hS.F ht⟩) hS.2.2 dX_event_133
          · obtain ⟨sa, hstr⟩ := hE.2.2.2.2 (78, "no room for more events") (by decide)
            exact vx_throwS (text := "no room for more events") (names := ["java/lang/RuntimeException", "java/lang/Exception"]) hx hb hE.1 hown (by decide) (by decide) (hbw _ kl_X_76) (hbw _ ki_java_lang_UnsupportedOperationException) hstr (xat_UOE hbw hE) xgd_UOE hE.2.1 hE.2.2.1 hS (hl.1.trans hml.symm) dX_event_54 dX_event_57 dX_event_58 dX_event_60 dX_event_63 (fun x hx => (hno x hx).elim) (Nat.le_of_ble_eq_true rfl) (Nat.le_of_ble_eq_true rfl) (Nat.le_of_ble_eq_true rfl) (Nat.le_of_ble_eq_true rfl) hlocks (fun t hal hle hkeep => ⟨(a, f, w), rfl, ⟨Or.inr ⟨rfl, by rintro (h | h | h | h) <;> first | exact c_5 h | exact absurd c_11 (Int32.not_le.mpr h) | exact c_25 h | exact absurd c_31 (Int32.not_le.mpr h), by omega⟩, hP.kept (fun k q hk => hkeep q.1 ((hP k q hk).lt)), va_K.moved hal hK, hD⟩, ⟨Nat.le_trans hS.1 hle, fun q h1 h2 => (hkeep q (Nat.lt_of_lt_of_le h1 hS.1)).trans (hS.2.1 q h1 h2)⟩⟩) hS.2.2 (Nat.le_of_ble_eq_true rfl) (Nat.le_of_ble_eq_true rfl)
        · obtain ⟨sa, hstr⟩ := hE.2.2.2.2 (74, "no such kind") (by decide)
          exact vx_throwS (text := "no such kind") (names := ["java/lang/RuntimeException", "java/lang/Exception"]) hx hb hE.1 hown (by decide) (by decide) (hbw _ kl_X_67) (hbw _ ki_java_lang_IllegalArgumentException) hstr (xat_IAE hbw hE) xgd_IAE hE.2.1 hE.2.2.1 hS (hl.1.trans hml.symm) dX_event_34 dX_event_37 dX_event_38 dX_event_40 dX_event_43 (fun x hx => (hno x hx).elim) (Nat.le_of_ble_eq_true rfl) (Nat.le_of_ble_eq_true rfl) (Nat.le_of_ble_eq_true rfl) (Nat.le_of_ble_eq_true rfl) hlocks (fun t hal hle hkeep => ⟨(a, f, w), rfl, ⟨Or.inl ⟨rfl, by first | exact Or.inl c_5 | exact Or.inr (Or.inl (Int32.not_le.mp c_11)) | exact Or.inr (Or.inr (Or.inl c_25)) | exact Or.inr (Or.inr (Or.inr (Int32.not_le.mp c_31)))⟩, hP.kept (fun k q hk => hkeep q.1 ((hP k q hk).lt)), va_K.moved hal hK, hD⟩, ⟨Nat.le_trans hS.1 hle, fun q h1 h2 => (hkeep q (Nat.lt_of_lt_of_le h1 hS.1)).trans (hS.2.1 q h1 h2)⟩⟩) hS.2.2 (Nat.le_of_ble_eq_true rfl) (Nat.le_of_ble_eq_true rfl)
    · obtain ⟨sa, hstr⟩ := hE.2.2.2.2 (69, "no such time here") (by decide)
      exact vx_throwS (text := "no such time here") (names := ["java/lang/RuntimeException", "java/lang/Exception"]) hx hb hE.1 hown (by decide) (by decide) (hbw _ kl_X_67) (hbw _ ki_java_lang_IllegalArgumentException) hstr (xat_IAE hbw hE) xgd_IAE hE.2.1 hE.2.2.1 hS (hl.1.trans hml.symm) dX_event_14 dX_event_17 dX_event_18 dX_event_20 dX_event_23 (fun x hx => (hno x hx).elim) (Nat.le_of_ble_eq_true rfl) (Nat.le_of_ble_eq_true rfl) (Nat.le_of_ble_eq_true rfl) (Nat.le_of_ble_eq_true rfl) hlocks (fun t hal hle hkeep => ⟨(a, f, w), rfl, ⟨Or.inl ⟨rfl, by first | exact Or.inl c_5 | exact Or.inr (Or.inl (Int32.not_le.mp c_11)) | exact Or.inr (Or.inr (Or.inl c_25)) | exact Or.inr (Or.inr (Or.inr (Int32.not_le.mp c_31)))⟩, hP.kept (fun k q hk => hkeep q.1 ((hP k q hk).lt)), va_K.moved hal hK, hD⟩, ⟨Nat.le_trans hS.1 hle, fun q h1 h2 => (hkeep q (Nat.lt_of_lt_of_le h1 hS.1)).trans (hS.2.1 q h1 h2)⟩⟩) hS.2.2 (Nat.le_of_ble_eq_true rfl) (Nat.le_of_ble_eq_true rfl)
