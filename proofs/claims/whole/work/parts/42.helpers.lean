/-! THE LAW'S SEVEN HELPERS -/
abbrev ow (q : Nat → Nat) (cI cZ cG cL : ClassId) (o : Nat) (h : Nat → Int64) (a : Nat → Nat → Int32) (f : Nat → Int32) (w : Nat → Nat → Int32) : va_W := (o, .inl (cL, 1, .inr (.inl h))) :: xw q cI cZ cG a f w
abbrev ot (cI cZ cG cL : ClassId) : List (ClassId × FieldType) := [(cI, .int), (cZ, .boolean), (cG, .array .int), (cL, .long)]
abbrev atO (dC : Nat → ClassId) (dI : Nat → Nat → Nat) (q : Nat → Nat) (cI cZ cG cL : ClassId) (o : Nat) (A : Nat → Prop) (u : XS × (Nat → Int64)) (t : State) : Prop := va_P (dC, dI) cls2 (ow q cI cZ cG cL o u.2 u.1.1 u.1.2.1 u.1.2.2) t.heap ∧ va_K (dC, dI) cls2 (ot cI cZ cG cL) t ∧ va_D A (ow q cI cZ cG cL o u.2 u.1.1 u.1.2.1 u.1.2.2)
def xNc (U : State) : Prop := va_Nc "java/lang/UnsupportedOperationException" "java/lang/IllegalArgumentException" U ∧ va_Nc "java/lang/IndexOutOfBoundsException" "java/lang/IllegalStateException" U ∧ va_Nc "java/lang/IllegalArgumentException" "java/lang/IllegalStateException" U ∧ va_Nc "java/lang/IllegalArgumentException" "java/lang/IndexOutOfBoundsException" U
theorem xNc.moved {u U : State} (hvm : u.vm.Alike U.vm) (h : xNc u) : xNc U := ⟨h.1.moved hvm, h.2.1.moved hvm, h.2.2.1.moved hvm, h.2.2.2.moved hvm⟩
set_option maxHeartbeats 4000000 in
set_option maxRecDepth 100000 in
/-- the law's event -/
theorem tL_event (l : Launch) (dC : Nat → ClassId) (dI : Nat → Nat → Nat) (q : Nat → Nat) (cI cZ cG cL : ClassId) (o : Nat) (h : Nat → Int64) (a : Nat → Nat → Int32) (f : Nat → Int32) (w : Nat → Nat → Int32) (sz : Nat) (n cm : Nat) (tm kd va : Int32) (hn : n ≤ 16) (hf1 : f 1 = nI n) (hcm : cm ≤ 400) (hf0 : f 0 = nI cm) : Met l yL_event wL_event ({ frames := 7, cells := 1, slots := 6, locals := 113 }) (va_Pc [.ref (q 0), .int (tm), .int (kd), .int (va), .ref (o)] (fun U => U.heap.size = sz ∧ va_P (dC, dI) cls2 (ow q cI cZ cG cL o h a f w) U.heap ∧ va_K (dC, dI) cls2 (ot cI cZ cG cL) U ∧ va_D (fun _ => True) (ow q cI cZ cG cL o h a f w) ∧ xE l (va_A (ow q cI cZ cG cL o h a f w) sz) U U.heap ∧ xNc U)) (va_Qi (fun (r0 : Int32) (u : XS × (Nat → Int64)) => (r0 = 0 ∧ ((¬ evBad a n tm kd ∧ cm < 400)) ∧ u = (xEv a f w n cm tm kd va, vp_updL h 0 (nI cm).toInt64)) ∨ (r0 = 1 ∧ (evBad a n tm kd) ∧ u = ((a, f, w), h)) ∨ (r0 = 2 ∧ (¬ evBad a n tm kd ∧ cm = 400) ∧ u = ((a, f, w), h))) (atO dC dI q cI cZ cG cL o (va_A (ow q cI cZ cG cL o h a f w) sz)) (va_A (ow q cI cZ cG cL o h a f w) sz)) 1 6 (va_A (ow q cI cZ cG cL o h a f w) sz) := by
  refine va_MetW (cc := cL_event) (maxL := 6) (ret := some .int) (by decide) rfl ?_
  intro p e s m args below meth c s₁ B hml hv
  obtain ⟨rfl, hsz, hP, hK, hD0, hE, hNc⟩ := hv
  have hx := B.exec
  have hb := B.bytes
  have hr := B.returns
  have hbw : ∀ w ∈ bw, w.before _ s = true := fun w h => atoms_spec (ws := wL_event) B.pre w (List.mem_cons_of_mem _ h)
  have hTb := vx_table (x := yL_event) B (atoms_spec (ws := wL_event) B.pre hL_event List.mem_cons_self)
  have hown : s.vm.findClass "EventPatternsLaw" = some m.cls := findClass_of_methodNamed B.named
  subst hsz
  have hD := hD0.self (sz := s.heap.size)
  generalize hAe : va_A (ow q cI cZ cG cL o h a f w) s.heap.size = A at hD hE ⊢
  have hA : ∀ q : Nat, s.heap.size ≤ q → A q := fun q h => by rw [← hAe]; exact Or.inr h
  have hS : va_S A s.heap s.heap [] := va_S.rf
  have hl := lv_entry ([.ref (q 0), .int (tm), .int (kd), .int (va), .ref (o)]) (n := 6) (Nat.le_of_ble_eq_true rfl)
  rw [lg_entry_eq]
  generalize (lg_sl ([.ref (q 0), .int (tm), .int (kd), .int (va), .ref (o)]) ++ List.replicate (6 - (lg_sl ([.ref (q 0), .int (tm), .int (kd), .int (va), .ref (o)])).length) Slot.unset).toArray = ls at hl ⊢
  have hl : lv_has ls 6 [(0, .ref (q 0)), (1, .int (tm)), (2, .int (kd)), (3, .int (va)), (4, .ref (o))] := hl
  refine lv_aload hx hb dL_event_0 (lv_at hl 4 rfl) ?_
  refine lv_iconst (v := 0) hx hb dL_event_2 (by decide) ?_
  refine lv_aload_n hx hb dL_event_3 rfl (lv_at hl 0 rfl) ?_
  refine lv_iload_n hx hb dL_event_4 rfl (lv_at hl 1 rfl) ?_
  refine lv_iload_n hx hb dL_event_5 rfl (lv_at hl 2 rfl) ?_
  refine lv_iload_n hx hb dL_event_6 rfl (lv_at hl 3 rfl) ?_
  have hPc := hP.sub (ws' := xw q cI cZ cG a f w) [1, 2, 3, 4, 5, 6, 7, 8, 9, 10, 11, 12, 13, 14, 15, 16, 17, 18, 19, 20, 21, 22, 23, 24, 25, 26, 27] rfl
  have hDc := hD.sub (ws' := xw q cI cZ cG a f w) [1, 2, 3, 4, 5, 6, 7, 8, 9, 10, 11, 12, 13, 14, 15, 16, 17, 18, 19, 20, 21, 22, 23, 24, 25, 26, 27] (by decide) rfl
  have hKc := hK.sub (tys' := xt cI cZ cG) [0, 1, 2] rfl
  have hFc := va_free (wc := xw q cI cZ cG a f w) hD hS hA [1, 2, 3, 4, 5, 6, 7, 8, 9, 10, 11, 12, 13, 14, 15, 16, 17, 18, 19, 20, 21, 22, 23, 24, 25, 26, 27] rfl
  refine vx_calli (vx_runV (As := [.int (tm), .int (kd), .int (va)]) (rest := [.int (0), .ref (o)]) ⟨hx, hb, hml, hown, hbw⟩ (tX_event l dC dI q cI cZ cG a f w s.heap.size n cm tm kd va hn hf1 hcm hf0) (cwV 3 hbw (bw_V km_L_7 ki_yX_event ksel_yX_event ki_EventPatterns kcX_event) rfl rfl rfl (by decide +kernel) ⟨Nat.le_of_ble_eq_true rfl, Nat.le_of_ble_eq_true rfl⟩) ⟨fun a U g mk q => by obtain ⟨q0, q1, qP, qK, qD, qE⟩ := q; exact ⟨q0, q1, qP, va_K.moved (u := U) (U := U.calling g mk a) (Vm.Alike.refl U.vm) qK, qD, xE.same (s := U) rfl qE⟩, va_recv hK hP (ci := 0) (q0 := 1) rfl rfl, fun U hU hW => ⟨rfl, by rw [hU], by rw [hU]; exact hPc, va_K.moved hW.alike hKc, hDc.weaken (fun _ _ _ _ => trivial), by rw [hU]; exact ((hE.kept hS.2.1).narrow hFc).warm hW⟩⟩ rfl rfl hl.1 rfl (lv_room (Nat.le_of_ble_eq_true rfl)) dL_event_7 ⟨Nat.le_of_ble_eq_true rfl, Nat.le_of_ble_eq_true rfl⟩) hS (fun q _ h => hFc q h) hFc (fun q _ h => hFc q h) (fun E ce q9 u t H1 locs ht hal hpx hBX hz1 hk1 hS hce hcv hcl => ?_) (fun r9 u t H1 locs ht hvm hq hB hz1 hk1 hS => ?_)
  · obtain ⟨herr, hP1, hK1, hD1⟩ := hBX
    rw [ht] at hP1
    rcases herr with ⟨rfl, h9⟩ | ⟨rfl, h9⟩
    · obtain rfl : u = (a, f, w) := hpx.trans (rfl)
      obtain ⟨hP, hD⟩ := va_join (wr := [(o, .inl (cL, 1, .inr (.inl h)))]) (w1 := xw q cI cZ cG ((a, f, w)).1 ((a, f, w)).2.1 ((a, f, w)).2.2) hP hD [1, 2, 3, 4, 5, 6, 7, 8, 9, 10, 11, 12, 13, 14, 15, 16, 17, 18, 19, 20, 21, 22, 23, 24, 25, 26, 27] [0] rfl rfl (by decide) (by decide) hk1 hFc hP1 hD1
      have hP : va_P (dC, dI) cls2 (ow q cI cZ cG cL o h ((a, f, w)).1 ((a, f, w)).2.1 ((a, f, w)).2.2) H1 := hP
      have hD : va_D A (ow q cI cZ cG cL o h ((a, f, w)).1 ((a, f, w)).2.1 ((a, f, w)).2.2) := hD
      refine vx_catch hown [] (⟨0, 12, 15, 13⟩ : ExceptionTableEntry) [(⟨0, 12, 19, 15⟩ : ExceptionTableEntry)] hTb (fun z hz => absurd hz List.not_mem_nil) (by decide) (by decide) (hbw _ kl_L_13) (va_Nw.use rfl (hE.2.2.2.1 _ (by decide))) hce hcv hcl ?_
      refine lv_astore (lv' := [(5, .ref (q9)), (0, .ref (q 0)), (1, .int (tm)), (2, .int (kd)), (3, .int (va)), (4, .ref (o))]) hx hb dL_event_15 hl (by decide) rfl (fun ls hl => ?_)
      refine lv_iconst (v := 1) hx hb dL_event_17 (by decide) ?_
      exact W.iret (v := 1) hx hb hr (fun t ht hW => ⟨⟨1, ((a, f, w), h), rfl, Or.inr (Or.inl (⟨rfl, h9, rfl⟩)), by rw [ht]; exact hP, va_K.moved hW.alike hK, hD⟩, hS.F ht⟩) hS.2.2 dL_event_18
    · obtain rfl : u = (a, f, w) := hpx.trans (rfl)
      obtain ⟨hP, hD⟩ := va_join (wr := [(o, .inl (cL, 1, .inr (.inl h)))]) (w1 := xw q cI cZ cG ((a, f, w)).1 ((a, f, w)).2.1 ((a, f, w)).2.2) hP hD [1, 2, 3, 4, 5, 6, 7, 8, 9, 10, 11, 12, 13, 14, 15, 16, 17, 18, 19, 20, 21, 22, 23, 24, 25, 26, 27] [0] rfl rfl (by decide) (by decide) hk1 hFc hP1 hD1
      have hP : va_P (dC, dI) cls2 (ow q cI cZ cG cL o h ((a, f, w)).1 ((a, f, w)).2.1 ((a, f, w)).2.2) H1 := hP
      have hD : va_D A (ow q cI cZ cG cL o h ((a, f, w)).1 ((a, f, w)).2.1 ((a, f, w)).2.2) := hD
      refine vx_catch hown [(⟨0, 12, 15, 13⟩ : ExceptionTableEntry)] (⟨0, 12, 19, 15⟩ : ExceptionTableEntry) [] hTb (fun z hz => by obtain rfl := List.mem_singleton.mp hz; exact Or.inr ⟨by decide, _, hbw _ kl_L_13, hNc.1⟩) (by decide) (by decide) (hbw _ kl_L_15) (va_Nw.use rfl (hE.2.2.2.1 _ (by decide))) hce hcv hcl ?_
      refine lv_astore (lv' := [(5, .ref (q9)), (0, .ref (q 0)), (1, .int (tm)), (2, .int (kd)), (3, .int (va)), (4, .ref (o))]) hx hb dL_event_19 hl (by decide) rfl (fun ls hl => ?_)
      refine lv_iconst (v := 2) hx hb dL_event_21 (by decide) ?_
      exact W.iret (v := 2) hx hb hr (fun t ht hW => ⟨⟨2, ((a, f, w), h), rfl, Or.inr (Or.inr (⟨rfl, h9, rfl⟩)), by rw [ht]; exact hP, va_K.moved hW.alike hK, hD⟩, hS.F ht⟩) hS.2.2 dL_event_22
  · obtain ⟨hg, rfl, rfl⟩ := hq
    obtain ⟨hP1, hK1, hD1⟩ := hB
    rw [ht] at hP1
    obtain ⟨hP, hD⟩ := va_join (wr := [(o, .inl (cL, 1, .inr (.inl h)))]) (w1 := xw q cI cZ cG (xEv a f w n cm tm kd va).1 (xEv a f w n cm tm kd va).2.1 (xEv a f w n cm tm kd va).2.2) hP hD [1, 2, 3, 4, 5, 6, 7, 8, 9, 10, 11, 12, 13, 14, 15, 16, 17, 18, 19, 20, 21, 22, 23, 24, 25, 26, 27] [0] rfl rfl (by decide) (by decide) hk1 hFc hP1 hD1
    have hP : va_P (dC, dI) cls2 (ow q cI cZ cG cL o h (xEv a f w n cm tm kd va).1 (xEv a f w n cm tm kd va).2.1 (xEv a f w n cm tm kd va).2.2) H1 := hP
    have hD : va_D A (ow q cI cZ cG cL o h (xEv a f w n cm tm kd va).1 (xEv a f w n cm tm kd va).2.1 (xEv a f w n cm tm kd va).2.2) := hD
    generalize H1 = H at hP hS ⊢
    refine lv_i2l hx hb dL_event_10 rfl ?_
    refine va_last hx hb hK hP hD hS 0 3 rfl rfl (by unfold vp_in; decide) dL_event_11 (fun H locs hP hD hS => ?_)
    have hP : va_P (dC, dI) cls2 (ow q cI cZ cG cL o (vp_updL h 0 (nI cm).toInt64) (xEv a f w n cm tm kd va).1 (xEv a f w n cm tm kd va).2.1 (xEv a f w n cm tm kd va).2.2) H := hP
    have hD : va_D A (ow q cI cZ cG cL o (vp_updL h 0 (nI cm).toInt64) (xEv a f w n cm tm kd va).1 (xEv a f w n cm tm kd va).2.1 (xEv a f w n cm tm kd va).2.2) := hD
    refine lv_goto (tgt := 23) hx hb dL_event_12 (by decide) ?_
    refine lv_iconst (v := 0) hx hb dL_event_23 (by decide) ?_
    exact W.iret (v := 0) hx hb hr (fun t ht hW => ⟨⟨0, (xEv a f w n cm tm kd va, vp_updL h 0 (nI cm).toInt64), rfl, Or.inl (⟨rfl, hg, rfl⟩), by rw [ht]; exact hP, va_K.moved hW.alike hK, hD⟩, hS.F ht⟩) hS.2.2 dL_event_24
set_option maxHeartbeats 4000000 in
set_option maxRecDepth 100000 in
/-- the law's pattern -/
theorem tL_pattern (l : Launch) (dC : Nat → ClassId) (dI : Nat → Nat → Nat) (q : Nat → Nat) (cI cZ cG cL : ClassId) (o : Nat) (h : Nat → Int64) (a : Nat → Nat → Int32) (f : Nat → Int32) (w : Nat → Nat → Int32) (sz : Nat) (sy sp : Int32)  : Met l yL_pattern wL_pattern ({ frames := 7, cells := 1, slots := 6, locals := 112 }) (va_Pc [.ref (q 0), .int (sy), .int (sp)] (fun U => U.heap.size = sz ∧ va_P (dC, dI) cls2 (ow q cI cZ cG cL o h a f w) U.heap ∧ va_K (dC, dI) cls2 (ot cI cZ cG cL) U ∧ va_D (fun _ => True) (ow q cI cZ cG cL o h a f w) ∧ xE l (va_A (ow q cI cZ cG cL o h a f w) sz) U U.heap ∧ xNc U)) (va_Qi (fun (r0 : Int32) (u : XS × (Nat → Int64)) => (r0 = 0 ∧ ((¬ paBad sy sp)) ∧ u = ((a, va_up (va_up (va_up f 2 sy) 3 sp) 4 0, w), h)) ∨ (r0 = 1 ∧ (paBad sy sp) ∧ u = ((a, f, w), h))) (atO dC dI q cI cZ cG cL o (va_A (ow q cI cZ cG cL o h a f w) sz)) (va_A (ow q cI cZ cG cL o h a f w) sz)) 1 6 (va_A (ow q cI cZ cG cL o h a f w) sz) := by
  refine va_MetW (cc := cL_pattern) (maxL := 4) (ret := some .int) (by decide) rfl ?_
  intro p e s m args below meth c s₁ B hml hv
  obtain ⟨rfl, hsz, hP, hK, hD0, hE, hNc⟩ := hv
  have hx := B.exec
  have hb := B.bytes
  have hr := B.returns
  have hbw : ∀ w ∈ bw, w.before _ s = true := fun w h => atoms_spec (ws := wL_pattern) B.pre w (List.mem_cons_of_mem _ h)
  have hTb := vx_table (x := yL_pattern) B (atoms_spec (ws := wL_pattern) B.pre hL_pattern List.mem_cons_self)
  have hown : s.vm.findClass "EventPatternsLaw" = some m.cls := findClass_of_methodNamed B.named
  subst hsz
  have hD := hD0.self (sz := s.heap.size)
  generalize hAe : va_A (ow q cI cZ cG cL o h a f w) s.heap.size = A at hD hE ⊢
  have hA : ∀ q : Nat, s.heap.size ≤ q → A q := fun q h => by rw [← hAe]; exact Or.inr h
  have hS : va_S A s.heap s.heap [] := va_S.rf
  have hl := lv_entry ([.ref (q 0), .int (sy), .int (sp)]) (n := 4) (Nat.le_of_ble_eq_true rfl)
  rw [lg_entry_eq]
  generalize (lg_sl ([.ref (q 0), .int (sy), .int (sp)]) ++ List.replicate (4 - (lg_sl ([.ref (q 0), .int (sy), .int (sp)])).length) Slot.unset).toArray = ls at hl ⊢
  have hl : lv_has ls 4 [(0, .ref (q 0)), (1, .int (sy)), (2, .int (sp))] := hl
  refine lv_aload_n hx hb dL_pattern_0 rfl (lv_at hl 0 rfl) ?_
  refine lv_iload_n hx hb dL_pattern_1 rfl (lv_at hl 1 rfl) ?_
  refine lv_iload_n hx hb dL_pattern_2 rfl (lv_at hl 2 rfl) ?_
  have hPc := hP.sub (ws' := xw q cI cZ cG a f w) [1, 2, 3, 4, 5, 6, 7, 8, 9, 10, 11, 12, 13, 14, 15, 16, 17, 18, 19, 20, 21, 22, 23, 24, 25, 26, 27] rfl
  have hDc := hD.sub (ws' := xw q cI cZ cG a f w) [1, 2, 3, 4, 5, 6, 7, 8, 9, 10, 11, 12, 13, 14, 15, 16, 17, 18, 19, 20, 21, 22, 23, 24, 25, 26, 27] (by decide) rfl
  have hKc := hK.sub (tys' := xt cI cZ cG) [0, 1, 2] rfl
  have hFc := va_free (wc := xw q cI cZ cG a f w) hD hS hA [1, 2, 3, 4, 5, 6, 7, 8, 9, 10, 11, 12, 13, 14, 15, 16, 17, 18, 19, 20, 21, 22, 23, 24, 25, 26, 27] rfl
  refine vx_callv (vx_runV (As := [.int (sy), .int (sp)]) (rest := []) ⟨hx, hb, hml, hown, hbw⟩ (tX_pattern l dC dI q cI cZ cG a f w s.heap.size sy sp) (cwV 2 hbw (bw_V km_L_17 ki_yX_pattern ksel_yX_pattern ki_EventPatterns kcX_pattern) rfl rfl rfl (by decide +kernel) ⟨Nat.le_of_ble_eq_true rfl, Nat.le_of_ble_eq_true rfl⟩) ⟨fun a U g mk q => by obtain ⟨q0, q1, qP, qK, qD, qE⟩ := q; exact ⟨q0, q1, qP, va_K.moved (u := U) (U := U.calling g mk a) (Vm.Alike.refl U.vm) qK, qD, xE.same (s := U) rfl qE⟩, va_recv hK hP (ci := 0) (q0 := 1) rfl rfl, fun U hU hW => ⟨rfl, by rw [hU], by rw [hU]; exact hPc, va_K.moved hW.alike hKc, hDc.weaken (fun _ _ _ _ => trivial), by rw [hU]; exact ((hE.kept hS.2.1).narrow hFc).warm hW⟩⟩ rfl rfl hl.1 rfl (lv_room (Nat.le_of_ble_eq_true rfl)) dL_pattern_3 ⟨Nat.le_of_ble_eq_true rfl, Nat.le_of_ble_eq_true rfl⟩) hS (fun q _ h => hFc q h) hFc (fun q _ h => hFc q h) (fun E ce q9 u t H1 locs ht hal hpx hBX hz1 hk1 hS hce hcv hcl => ?_) (fun u t H1 locs ht hvm hq hB hz1 hk1 hS => ?_)
  · obtain ⟨herr, hP1, hK1, hD1⟩ := hBX
    rw [ht] at hP1
    obtain ⟨rfl, h9⟩ := herr
    obtain rfl : u = (a, f, w) := hpx.trans (rfl)
    obtain ⟨hP, hD⟩ := va_join (wr := [(o, .inl (cL, 1, .inr (.inl h)))]) (w1 := xw q cI cZ cG ((a, f, w)).1 ((a, f, w)).2.1 ((a, f, w)).2.2) hP hD [1, 2, 3, 4, 5, 6, 7, 8, 9, 10, 11, 12, 13, 14, 15, 16, 17, 18, 19, 20, 21, 22, 23, 24, 25, 26, 27] [0] rfl rfl (by decide) (by decide) hk1 hFc hP1 hD1
    have hP : va_P (dC, dI) cls2 (ow q cI cZ cG cL o h ((a, f, w)).1 ((a, f, w)).2.1 ((a, f, w)).2.2) H1 := hP
    have hD : va_D A (ow q cI cZ cG cL o h ((a, f, w)).1 ((a, f, w)).2.1 ((a, f, w)).2.2) := hD
    refine vx_catch hown [] (⟨0, 6, 9, 13⟩ : ExceptionTableEntry) [] hTb (fun z hz => absurd hz List.not_mem_nil) (by decide) (by decide) (hbw _ kl_L_13) (va_Nw.use rfl (hE.2.2.2.1 _ (by decide))) hce hcv hcl ?_
    refine lv_astore_n (lv' := [(3, .ref (q9)), (0, .ref (q 0)), (1, .int (sy)), (2, .int (sp))]) hx hb dL_pattern_9 rfl hl (by decide) rfl (fun ls hl => ?_)
    refine lv_iconst (v := 1) hx hb dL_pattern_10 (by decide) ?_
    exact W.iret (v := 1) hx hb hr (fun t ht hW => ⟨⟨1, ((a, f, w), h), rfl, Or.inr (⟨rfl, h9, rfl⟩), by rw [ht]; exact hP, va_K.moved hW.alike hK, hD⟩, hS.F ht⟩) hS.2.2 dL_pattern_11
  · obtain ⟨hg, rfl⟩ := hq
    obtain ⟨hP1, hK1, hD1⟩ := hB
    rw [ht] at hP1
    obtain ⟨hP, hD⟩ := va_join (wr := [(o, .inl (cL, 1, .inr (.inl h)))]) (w1 := xw q cI cZ cG ((a, va_up (va_up (va_up f 2 sy) 3 sp) 4 0, w)).1 ((a, va_up (va_up (va_up f 2 sy) 3 sp) 4 0, w)).2.1 ((a, va_up (va_up (va_up f 2 sy) 3 sp) 4 0, w)).2.2) hP hD [1, 2, 3, 4, 5, 6, 7, 8, 9, 10, 11, 12, 13, 14, 15, 16, 17, 18, 19, 20, 21, 22, 23, 24, 25, 26, 27] [0] rfl rfl (by decide) (by decide) hk1 hFc hP1 hD1
    have hP : va_P (dC, dI) cls2 (ow q cI cZ cG cL o h ((a, va_up (va_up (va_up f 2 sy) 3 sp) 4 0, w)).1 ((a, va_up (va_up (va_up f 2 sy) 3 sp) 4 0, w)).2.1 ((a, va_up (va_up (va_up f 2 sy) 3 sp) 4 0, w)).2.2) H1 := hP
    have hD : va_D A (ow q cI cZ cG cL o h ((a, va_up (va_up (va_up f 2 sy) 3 sp) 4 0, w)).1 ((a, va_up (va_up (va_up f 2 sy) 3 sp) 4 0, w)).2.1 ((a, va_up (va_up (va_up f 2 sy) 3 sp) 4 0, w)).2.2) := hD
    generalize H1 = H at hP hS ⊢
    refine lv_goto (tgt := 12) hx hb dL_pattern_6 (by decide) ?_
    refine lv_iconst (v := 0) hx hb dL_pattern_12 (by decide) ?_
    exact W.iret (v := 0) hx hb hr (fun t ht hW => ⟨⟨0, ((a, va_up (va_up (va_up f 2 sy) 3 sp) 4 0, w), h), rfl, Or.inl (⟨rfl, hg, rfl⟩), by rw [ht]; exact hP, va_K.moved hW.alike hK, hD⟩, hS.F ht⟩) hS.2.2 dL_pattern_13
set_option maxHeartbeats 4000000 in
set_option maxRecDepth 100000 in
/-- the law's step -/
theorem tL_step (l : Launch) (dC : Nat → ClassId) (dI : Nat → Nat → Nat) (q : Nat → Nat) (cI cZ cG cL : ClassId) (o : Nat) (h : Nat → Int64) (a : Nat → Nat → Int32) (f : Nat → Int32) (w : Nat → Nat → Int32) (sz : Nat) (ms : Nat) (ki te nn mb : Int32) (hm : ms ≤ 5) (hf4 : f 4 = nI ms)  : Met l yL_step wL_step ({ frames := 7, cells := 1, slots := 6, locals := 114 }) (va_Pc [.ref (q 0), .int (ki), .int (te), .int (nn), .int (mb), .ref (o)] (fun U => U.heap.size = sz ∧ va_P (dC, dI) cls2 (ow q cI cZ cG cL o h a f w) U.heap ∧ va_K (dC, dI) cls2 (ot cI cZ cG cL) U ∧ va_D (fun _ => True) (ow q cI cZ cG cL o h a f w) ∧ xE l (va_A (ow q cI cZ cG cL o h a f w) sz) U U.heap ∧ xNc U)) (va_Qi (fun (r0 : Int32) (u : XS × (Nat → Int64)) => (r0 = 0 ∧ ((¬ stBad ki te ∧ ms < 5)) ∧ u = ((va_up (va_up (va_up (va_up a 3 (upd (a 3) ms ki)) 4 (upd (a 4) ms te)) 5 (upd (a 5) ms nn)) 6 (upd (a 6) ms (vp_nar .boolean mb)), va_up f 4 (nI (ms + 1)), w), vp_updL h 0 (nI ms).toInt64)) ∨ (r0 = 1 ∧ (stBad ki te) ∧ u = ((a, f, w), h)) ∨ (r0 = 2 ∧ (¬ stBad ki te ∧ ms = 5) ∧ u = ((a, f, w), h))) (atO dC dI q cI cZ cG cL o (va_A (ow q cI cZ cG cL o h a f w) sz)) (va_A (ow q cI cZ cG cL o h a f w) sz)) 1 6 (va_A (ow q cI cZ cG cL o h a f w) sz) := by
  refine va_MetW (cc := cL_step) (maxL := 7) (ret := some .int) (by decide) rfl ?_
  intro p e s m args below meth c s₁ B hml hv
  obtain ⟨rfl, hsz, hP, hK, hD0, hE, hNc⟩ := hv
  have hx := B.exec
  have hb := B.bytes
  have hr := B.returns
  have hbw : ∀ w ∈ bw, w.before _ s = true := fun w h => atoms_spec (ws := wL_step) B.pre w (List.mem_cons_of_mem _ h)
  have hTb := vx_table (x := yL_step) B (atoms_spec (ws := wL_step) B.pre hL_step List.mem_cons_self)
  have hown : s.vm.findClass "EventPatternsLaw" = some m.cls := findClass_of_methodNamed B.named
  subst hsz
  have hD := hD0.self (sz := s.heap.size)
  generalize hAe : va_A (ow q cI cZ cG cL o h a f w) s.heap.size = A at hD hE ⊢
  have hA : ∀ q : Nat, s.heap.size ≤ q → A q := fun q h => by rw [← hAe]; exact Or.inr h
  have hS : va_S A s.heap s.heap [] := va_S.rf
  have hl := lv_entry ([.ref (q 0), .int (ki), .int (te), .int (nn), .int (mb), .ref (o)]) (n := 7) (Nat.le_of_ble_eq_true rfl)
  rw [lg_entry_eq]
  generalize (lg_sl ([.ref (q 0), .int (ki), .int (te), .int (nn), .int (mb), .ref (o)]) ++ List.replicate (7 - (lg_sl ([.ref (q 0), .int (ki), .int (te), .int (nn), .int (mb), .ref (o)])).length) Slot.unset).toArray = ls at hl ⊢
  have hl : lv_has ls 7 [(0, .ref (q 0)), (1, .int (ki)), (2, .int (te)), (3, .int (nn)), (4, .int (mb)), (5, .ref (o))] := hl
  refine lv_aload hx hb dL_step_0 (lv_at hl 5 rfl) ?_
  refine lv_iconst (v := 0) hx hb dL_step_2 (by decide) ?_
  refine lv_aload_n hx hb dL_step_3 rfl (lv_at hl 0 rfl) ?_
  refine lv_iload_n hx hb dL_step_4 rfl (lv_at hl 1 rfl) ?_
  refine lv_iload_n hx hb dL_step_5 rfl (lv_at hl 2 rfl) ?_
  refine lv_iload_n hx hb dL_step_6 rfl (lv_at hl 3 rfl) ?_
  refine lv_iload hx hb dL_step_7 (lv_at hl 4 rfl) ?_
  have hPc := hP.sub (ws' := xw q cI cZ cG a f w) [1, 2, 3, 4, 5, 6, 7, 8, 9, 10, 11, 12, 13, 14, 15, 16, 17, 18, 19, 20, 21, 22, 23, 24, 25, 26, 27] rfl
  have hDc := hD.sub (ws' := xw q cI cZ cG a f w) [1, 2, 3, 4, 5, 6, 7, 8, 9, 10, 11, 12, 13, 14, 15, 16, 17, 18, 19, 20, 21, 22, 23, 24, 25, 26, 27] (by decide) rfl
  have hKc := hK.sub (tys' := xt cI cZ cG) [0, 1, 2] rfl
  have hFc := va_free (wc := xw q cI cZ cG a f w) hD hS hA [1, 2, 3, 4, 5, 6, 7, 8, 9, 10, 11, 12, 13, 14, 15, 16, 17, 18, 19, 20, 21, 22, 23, 24, 25, 26, 27] rfl
  refine vx_calli (vx_runV (As := [.int (ki), .int (te), .int (nn), .int (mb)]) (rest := [.int (0), .ref (o)]) ⟨hx, hb, hml, hown, hbw⟩ (tX_step l dC dI q cI cZ cG a f w s.heap.size ms ki te nn mb hm hf4) (cwV 4 hbw (bw_V km_L_21 ki_yX_step ksel_yX_step ki_EventPatterns kcX_step) rfl rfl rfl (by decide +kernel) ⟨Nat.le_of_ble_eq_true rfl, Nat.le_of_ble_eq_true rfl⟩) ⟨fun a U g mk q => by obtain ⟨q0, q1, qP, qK, qD, qE⟩ := q; exact ⟨q0, q1, qP, va_K.moved (u := U) (U := U.calling g mk a) (Vm.Alike.refl U.vm) qK, qD, xE.same (s := U) rfl qE⟩, va_recv hK hP (ci := 0) (q0 := 1) rfl rfl, fun U hU hW => ⟨rfl, by rw [hU], by rw [hU]; exact hPc, va_K.moved hW.alike hKc, hDc.weaken (fun _ _ _ _ => trivial), by rw [hU]; exact ((hE.kept hS.2.1).narrow hFc).warm hW⟩⟩ rfl rfl hl.1 rfl (lv_room (Nat.le_of_ble_eq_true rfl)) dL_step_9 ⟨Nat.le_of_ble_eq_true rfl, Nat.le_of_ble_eq_true rfl⟩) hS (fun q _ h => hFc q h) hFc (fun q _ h => hFc q h) (fun E ce q9 u t H1 locs ht hal hpx hBX hz1 hk1 hS hce hcv hcl => ?_) (fun r9 u t H1 locs ht hvm hq hB hz1 hk1 hS => ?_)
  · obtain ⟨herr, hP1, hK1, hD1⟩ := hBX
    rw [ht] at hP1
    rcases herr with ⟨rfl, h9⟩ | ⟨rfl, h9⟩
    · obtain rfl : u = (a, f, w) := hpx.trans (rfl)
      obtain ⟨hP, hD⟩ := va_join (wr := [(o, .inl (cL, 1, .inr (.inl h)))]) (w1 := xw q cI cZ cG ((a, f, w)).1 ((a, f, w)).2.1 ((a, f, w)).2.2) hP hD [1, 2, 3, 4, 5, 6, 7, 8, 9, 10, 11, 12, 13, 14, 15, 16, 17, 18, 19, 20, 21, 22, 23, 24, 25, 26, 27] [0] rfl rfl (by decide) (by decide) hk1 hFc hP1 hD1
      have hP : va_P (dC, dI) cls2 (ow q cI cZ cG cL o h ((a, f, w)).1 ((a, f, w)).2.1 ((a, f, w)).2.2) H1 := hP
      have hD : va_D A (ow q cI cZ cG cL o h ((a, f, w)).1 ((a, f, w)).2.1 ((a, f, w)).2.2) := hD
      refine vx_catch hown [] (⟨0, 14, 17, 13⟩ : ExceptionTableEntry) [(⟨0, 14, 21, 15⟩ : ExceptionTableEntry)] hTb (fun z hz => absurd hz List.not_mem_nil) (by decide) (by decide) (hbw _ kl_L_13) (va_Nw.use rfl (hE.2.2.2.1 _ (by decide))) hce hcv hcl ?_
      refine lv_astore (lv' := [(6, .ref (q9)), (0, .ref (q 0)), (1, .int (ki)), (2, .int (te)), (3, .int (nn)), (4, .int (mb)), (5, .ref (o))]) hx hb dL_step_17 hl (by decide) rfl (fun ls hl => ?_)
      refine lv_iconst (v := 1) hx hb dL_step_19 (by decide) ?_
      exact W.iret (v := 1) hx hb hr (fun t ht hW => ⟨⟨1, ((a, f, w), h), rfl, Or.inr (Or.inl (⟨rfl, h9, rfl⟩)), by rw [ht]; exact hP, va_K.moved hW.alike hK, hD⟩, hS.F ht⟩) hS.2.2 dL_step_20
    · obtain rfl : u = (a, f, w) := hpx.trans (rfl)
      obtain ⟨hP, hD⟩ := va_join (wr := [(o, .inl (cL, 1, .inr (.inl h)))]) (w1 := xw q cI cZ cG ((a, f, w)).1 ((a, f, w)).2.1 ((a, f, w)).2.2) hP hD [1, 2, 3, 4, 5, 6, 7, 8, 9, 10, 11, 12, 13, 14, 15, 16, 17, 18, 19, 20, 21, 22, 23, 24, 25, 26, 27] [0] rfl rfl (by decide) (by decide) hk1 hFc hP1 hD1
      have hP : va_P (dC, dI) cls2 (ow q cI cZ cG cL o h ((a, f, w)).1 ((a, f, w)).2.1 ((a, f, w)).2.2) H1 := hP
      have hD : va_D A (ow q cI cZ cG cL o h ((a, f, w)).1 ((a, f, w)).2.1 ((a, f, w)).2.2) := hD
      refine vx_catch hown [(⟨0, 14, 17, 13⟩ : ExceptionTableEntry)] (⟨0, 14, 21, 15⟩ : ExceptionTableEntry) [] hTb (fun z hz => by obtain rfl := List.mem_singleton.mp hz; exact Or.inr ⟨by decide, _, hbw _ kl_L_13, hNc.1⟩) (by decide) (by decide) (hbw _ kl_L_15) (va_Nw.use rfl (hE.2.2.2.1 _ (by decide))) hce hcv hcl ?_
      refine lv_astore (lv' := [(6, .ref (q9)), (0, .ref (q 0)), (1, .int (ki)), (2, .int (te)), (3, .int (nn)), (4, .int (mb)), (5, .ref (o))]) hx hb dL_step_21 hl (by decide) rfl (fun ls hl => ?_)
      refine lv_iconst (v := 2) hx hb dL_step_23 (by decide) ?_
      exact W.iret (v := 2) hx hb hr (fun t ht hW => ⟨⟨2, ((a, f, w), h), rfl, Or.inr (Or.inr (⟨rfl, h9, rfl⟩)), by rw [ht]; exact hP, va_K.moved hW.alike hK, hD⟩, hS.F ht⟩) hS.2.2 dL_step_24
  · obtain ⟨hg, rfl, rfl⟩ := hq
    obtain ⟨hP1, hK1, hD1⟩ := hB
    rw [ht] at hP1
    obtain ⟨hP, hD⟩ := va_join (wr := [(o, .inl (cL, 1, .inr (.inl h)))]) (w1 := xw q cI cZ cG ((va_up (va_up (va_up (va_up a 3 (upd (a 3) ms ki)) 4 (upd (a 4) ms te)) 5 (upd (a 5) ms nn)) 6 (upd (a 6) ms (vp_nar .boolean mb)), va_up f 4 (nI (ms + 1)), w)).1 ((va_up (va_up (va_up (va_up a 3 (upd (a 3) ms ki)) 4 (upd (a 4) ms te)) 5 (upd (a 5) ms nn)) 6 (upd (a 6) ms (vp_nar .boolean mb)), va_up f 4 (nI (ms + 1)), w)).2.1 ((va_up (va_up (va_up (va_up a 3 (upd (a 3) ms ki)) 4 (upd (a 4) ms te)) 5 (upd (a 5) ms nn)) 6 (upd (a 6) ms (vp_nar .boolean mb)), va_up f 4 (nI (ms + 1)), w)).2.2) hP hD [1, 2, 3, 4, 5, 6, 7, 8, 9, 10, 11, 12, 13, 14, 15, 16, 17, 18, 19, 20, 21, 22, 23, 24, 25, 26, 27] [0] rfl rfl (by decide) (by decide) hk1 hFc hP1 hD1
    have hP : va_P (dC, dI) cls2 (ow q cI cZ cG cL o h ((va_up (va_up (va_up (va_up a 3 (upd (a 3) ms ki)) 4 (upd (a 4) ms te)) 5 (upd (a 5) ms nn)) 6 (upd (a 6) ms (vp_nar .boolean mb)), va_up f 4 (nI (ms + 1)), w)).1 ((va_up (va_up (va_up (va_up a 3 (upd (a 3) ms ki)) 4 (upd (a 4) ms te)) 5 (upd (a 5) ms nn)) 6 (upd (a 6) ms (vp_nar .boolean mb)), va_up f 4 (nI (ms + 1)), w)).2.1 ((va_up (va_up (va_up (va_up a 3 (upd (a 3) ms ki)) 4 (upd (a 4) ms te)) 5 (upd (a 5) ms nn)) 6 (upd (a 6) ms (vp_nar .boolean mb)), va_up f 4 (nI (ms + 1)), w)).2.2) H1 := hP
    have hD : va_D A (ow q cI cZ cG cL o h ((va_up (va_up (va_up (va_up a 3 (upd (a 3) ms ki)) 4 (upd (a 4) ms te)) 5 (upd (a 5) ms nn)) 6 (upd (a 6) ms (vp_nar .boolean mb)), va_up f 4 (nI (ms + 1)), w)).1 ((va_up (va_up (va_up (va_up a 3 (upd (a 3) ms ki)) 4 (upd (a 4) ms te)) 5 (upd (a 5) ms nn)) 6 (upd (a 6) ms (vp_nar .boolean mb)), va_up f 4 (nI (ms + 1)), w)).2.1 ((va_up (va_up (va_up (va_up a 3 (upd (a 3) ms ki)) 4 (upd (a 4) ms te)) 5 (upd (a 5) ms nn)) 6 (upd (a 6) ms (vp_nar .boolean mb)), va_up f 4 (nI (ms + 1)), w)).2.2) := hD
    generalize H1 = H at hP hS ⊢
    refine lv_i2l hx hb dL_step_12 rfl ?_
    refine va_last hx hb hK hP hD hS 0 3 rfl rfl (by unfold vp_in; decide) dL_step_13 (fun H locs hP hD hS => ?_)
    have hP : va_P (dC, dI) cls2 (ow q cI cZ cG cL o (vp_updL h 0 (nI ms).toInt64) ((va_up (va_up (va_up (va_up a 3 (upd (a 3) ms ki)) 4 (upd (a 4) ms te)) 5 (upd (a 5) ms nn)) 6 (upd (a 6) ms (vp_nar .boolean mb)), va_up f 4 (nI (ms + 1)), w)).1 ((va_up (va_up (va_up (va_up a 3 (upd (a 3) ms ki)) 4 (upd (a 4) ms te)) 5 (upd (a 5) ms nn)) 6 (upd (a 6) ms (vp_nar .boolean mb)), va_up f 4 (nI (ms + 1)), w)).2.1 ((va_up (va_up (va_up (va_up a 3 (upd (a 3) ms ki)) 4 (upd (a 4) ms te)) 5 (upd (a 5) ms nn)) 6 (upd (a 6) ms (vp_nar .boolean mb)), va_up f 4 (nI (ms + 1)), w)).2.2) H := hP
    have hD : va_D A (ow q cI cZ cG cL o (vp_updL h 0 (nI ms).toInt64) ((va_up (va_up (va_up (va_up a 3 (upd (a 3) ms ki)) 4 (upd (a 4) ms te)) 5 (upd (a 5) ms nn)) 6 (upd (a 6) ms (vp_nar .boolean mb)), va_up f 4 (nI (ms + 1)), w)).1 ((va_up (va_up (va_up (va_up a 3 (upd (a 3) ms ki)) 4 (upd (a 4) ms te)) 5 (upd (a 5) ms nn)) 6 (upd (a 6) ms (vp_nar .boolean mb)), va_up f 4 (nI (ms + 1)), w)).2.1 ((va_up (va_up (va_up (va_up a 3 (upd (a 3) ms ki)) 4 (upd (a 4) ms te)) 5 (upd (a 5) ms nn)) 6 (upd (a 6) ms (vp_nar .boolean mb)), va_up f 4 (nI (ms + 1)), w)).2.2) := hD
    refine lv_goto (tgt := 25) hx hb dL_step_14 (by decide) ?_
    refine lv_iconst (v := 0) hx hb dL_step_25 (by decide) ?_
    exact W.iret (v := 0) hx hb hr (fun t ht hW => ⟨⟨0, ((va_up (va_up (va_up (va_up a 3 (upd (a 3) ms ki)) 4 (upd (a 4) ms te)) 5 (upd (a 5) ms nn)) 6 (upd (a 6) ms (vp_nar .boolean mb)), va_up f 4 (nI (ms + 1)), w), vp_updL h 0 (nI ms).toInt64), rfl, Or.inl (⟨rfl, hg, rfl⟩), by rw [ht]; exact hP, va_K.moved hW.alike hK, hD⟩, hS.F ht⟩) hS.2.2 dL_step_26
set_option maxHeartbeats 4000000 in
set_option maxRecDepth 100000 in
/-- the law's count -/
theorem tL_count (l : Launch) (dC : Nat → ClassId) (dI : Nat → Nat → Nat) (q : Nat → Nat) (cI cZ cG cL : ClassId) (o : Nat) (h : Nat → Int64) (a : Nat → Nat → Int32) (f : Nat → Int32) (w : Nat → Nat → Int32) (sz : Nat) (n ms : Nat) (hn : n ≤ 16) (hf1 : f 1 = nI n) (hm : ms ≤ 5) (hf4 : f 4 = nI ms)  : Met l yL_count wL_count ({ frames := 8, cells := 1, slots := 6, locals := 142 }) (va_Pc [.ref (q 0), .ref (o)] (fun U => U.heap.size = sz ∧ va_P (dC, dI) cls2 (ow q cI cZ cG cL o h a f w) U.heap ∧ va_K (dC, dI) cls2 (ot cI cZ cG cL) U ∧ va_D (fun _ => True) (ow q cI cZ cG cL o h a f w) ∧ xE l (va_A (ow q cI cZ cG cL o h a f w) sz) U U.heap ∧ xNc U)) (va_Qi (fun (r0 : Int32) (u : XS × (Nat → Int64)) => (r0 = 0 ∧ ((1 ≤ ms)) ∧ u = ((a, f, (xCntL a f n ms (0) (n + 1) 0 0 w).2), vp_updL h 0 ((xCntL a f n ms (0) (n + 1) 0 0 w).1).toInt64)) ∨ (r0 = 1 ∧ (ms = 0) ∧ u = ((a, f, w), h))) (atO dC dI q cI cZ cG cL o (va_A (ow q cI cZ cG cL o h a f w) sz)) (va_A (ow q cI cZ cG cL o h a f w) sz)) 1 6 (va_A (ow q cI cZ cG cL o h a f w) sz) := by
  refine va_MetW (cc := cL_count) (maxL := 3) (ret := some .int) (by decide) rfl ?_
  intro p e s m args below meth c s₁ B hml hv
  obtain ⟨rfl, hsz, hP, hK, hD0, hE, hNc⟩ := hv
  have hx := B.exec
  have hb := B.bytes
  have hr := B.returns
  have hbw : ∀ w ∈ bw, w.before _ s = true := fun w h => atoms_spec (ws := wL_count) B.pre w (List.mem_cons_of_mem _ h)
  have hTb := vx_table (x := yL_count) B (atoms_spec (ws := wL_count) B.pre hL_count List.mem_cons_self)
  have hown : s.vm.findClass "EventPatternsLaw" = some m.cls := findClass_of_methodNamed B.named
  subst hsz
  have hD := hD0.self (sz := s.heap.size)
  generalize hAe : va_A (ow q cI cZ cG cL o h a f w) s.heap.size = A at hD hE ⊢
  have hA : ∀ q : Nat, s.heap.size ≤ q → A q := fun q h => by rw [← hAe]; exact Or.inr h
  have hS : va_S A s.heap s.heap [] := va_S.rf
  have hl := lv_entry ([.ref (q 0), .ref (o)]) (n := 3) (Nat.le_of_ble_eq_true rfl)
  rw [lg_entry_eq]
  generalize (lg_sl ([.ref (q 0), .ref (o)]) ++ List.replicate (3 - (lg_sl ([.ref (q 0), .ref (o)])).length) Slot.unset).toArray = ls at hl ⊢
  have hl : lv_has ls 3 [(0, .ref (q 0)), (1, .ref (o))] := hl
  refine lv_aload_n hx hb dL_count_0 rfl (lv_at hl 1 rfl) ?_
  refine lv_iconst (v := 0) hx hb dL_count_1 (by decide) ?_
  refine lv_aload_n hx hb dL_count_2 rfl (lv_at hl 0 rfl) ?_
  have hPc := hP.sub (ws' := xw q cI cZ cG a f w) [1, 2, 3, 4, 5, 6, 7, 8, 9, 10, 11, 12, 13, 14, 15, 16, 17, 18, 19, 20, 21, 22, 23, 24, 25, 26, 27] rfl
  have hDc := hD.sub (ws' := xw q cI cZ cG a f w) [1, 2, 3, 4, 5, 6, 7, 8, 9, 10, 11, 12, 13, 14, 15, 16, 17, 18, 19, 20, 21, 22, 23, 24, 25, 26, 27] (by decide) rfl
  have hKc := hK.sub (tys' := xt cI cZ cG) [0, 1, 2] rfl
  have hFc := va_free (wc := xw q cI cZ cG a f w) hD hS hA [1, 2, 3, 4, 5, 6, 7, 8, 9, 10, 11, 12, 13, 14, 15, 16, 17, 18, 19, 20, 21, 22, 23, 24, 25, 26, 27] rfl
  refine vx_calli (vx_runV (As := []) (rest := [.int (0), .ref (o)]) ⟨hx, hb, hml, hown, hbw⟩ (tX_count l dC dI q cI cZ cG a f w s.heap.size n ms hn hf1 hm hf4) (cwV 0 hbw (bw_V km_L_25 ki_yX_count ksel_yX_count ki_EventPatterns kcX_count) rfl rfl rfl (by decide +kernel) ⟨Nat.le_of_ble_eq_true rfl, Nat.le_of_ble_eq_true rfl⟩) ⟨fun a U g mk q => by obtain ⟨q0, q1, qP, qK, qD, qE⟩ := q; exact ⟨q0, q1, qP, va_K.moved (u := U) (U := U.calling g mk a) (Vm.Alike.refl U.vm) qK, qD, xE.same (s := U) rfl qE⟩, va_recv hK hP (ci := 0) (q0 := 1) rfl rfl, fun U hU hW => ⟨rfl, by rw [hU], by rw [hU]; exact hPc, va_K.moved hW.alike hKc, hDc.weaken (fun _ _ _ _ => trivial), by rw [hU]; exact ((hE.kept hS.2.1).narrow hFc).warm hW⟩⟩ rfl rfl hl.1 rfl (lv_room (Nat.le_of_ble_eq_true rfl)) dL_count_3 ⟨Nat.le_of_ble_eq_true rfl, Nat.le_of_ble_eq_true rfl⟩) hS (fun q _ h => hFc q h) hFc (fun q _ h => hFc q h) (fun E ce q9 u t H1 locs ht hal hpx hBX hz1 hk1 hS hce hcv hcl => ?_) (fun r9 u t H1 locs ht hvm hq hB hz1 hk1 hS => ?_)
  · obtain ⟨herr, hP1, hK1, hD1⟩ := hBX
    rw [ht] at hP1
    obtain ⟨rfl, h9⟩ := herr
    obtain rfl : u = (a, f, w) := hpx.trans (rfl)
    obtain ⟨hP, hD⟩ := va_join (wr := [(o, .inl (cL, 1, .inr (.inl h)))]) (w1 := xw q cI cZ cG ((a, f, w)).1 ((a, f, w)).2.1 ((a, f, w)).2.2) hP hD [1, 2, 3, 4, 5, 6, 7, 8, 9, 10, 11, 12, 13, 14, 15, 16, 17, 18, 19, 20, 21, 22, 23, 24, 25, 26, 27] [0] rfl rfl (by decide) (by decide) hk1 hFc hP1 hD1
    have hP : va_P (dC, dI) cls2 (ow q cI cZ cG cL o h ((a, f, w)).1 ((a, f, w)).2.1 ((a, f, w)).2.2) H1 := hP
    have hD : va_D A (ow q cI cZ cG cL o h ((a, f, w)).1 ((a, f, w)).2.1 ((a, f, w)).2.2) := hD
    refine vx_catch hown [] (⟨0, 8, 11, 29⟩ : ExceptionTableEntry) [] hTb (fun z hz => absurd hz List.not_mem_nil) (by decide) (by decide) (hbw _ kl_L_29) (va_Nw.use rfl (hE.2.2.2.1 _ (by decide))) hce hcv hcl ?_
    refine lv_astore_n (lv' := [(2, .ref (q9)), (0, .ref (q 0)), (1, .ref (o))]) hx hb dL_count_11 rfl hl (by decide) rfl (fun ls hl => ?_)
    refine lv_iconst (v := 1) hx hb dL_count_12 (by decide) ?_
    exact W.iret (v := 1) hx hb hr (fun t ht hW => ⟨⟨1, ((a, f, w), h), rfl, Or.inr (⟨rfl, h9, rfl⟩), by rw [ht]; exact hP, va_K.moved hW.alike hK, hD⟩, hS.F ht⟩) hS.2.2 dL_count_13
  · obtain ⟨hg, rfl, rfl⟩ := hq
    obtain ⟨hP1, hK1, hD1⟩ := hB
    rw [ht] at hP1
    obtain ⟨hP, hD⟩ := va_join (wr := [(o, .inl (cL, 1, .inr (.inl h)))]) (w1 := xw q cI cZ cG ((a, f, (xCntL a f n ms (0) (n + 1) 0 0 w).2)).1 ((a, f, (xCntL a f n ms (0) (n + 1) 0 0 w).2)).2.1 ((a, f, (xCntL a f n ms (0) (n + 1) 0 0 w).2)).2.2) hP hD [1, 2, 3, 4, 5, 6, 7, 8, 9, 10, 11, 12, 13, 14, 15, 16, 17, 18, 19, 20, 21, 22, 23, 24, 25, 26, 27] [0] rfl rfl (by decide) (by decide) hk1 hFc hP1 hD1
    have hP : va_P (dC, dI) cls2 (ow q cI cZ cG cL o h ((a, f, (xCntL a f n ms (0) (n + 1) 0 0 w).2)).1 ((a, f, (xCntL a f n ms (0) (n + 1) 0 0 w).2)).2.1 ((a, f, (xCntL a f n ms (0) (n + 1) 0 0 w).2)).2.2) H1 := hP
    have hD : va_D A (ow q cI cZ cG cL o h ((a, f, (xCntL a f n ms (0) (n + 1) 0 0 w).2)).1 ((a, f, (xCntL a f n ms (0) (n + 1) 0 0 w).2)).2.1 ((a, f, (xCntL a f n ms (0) (n + 1) 0 0 w).2)).2.2) := hD
    generalize H1 = H at hP hS ⊢
    refine lv_i2l hx hb dL_count_6 rfl ?_
    refine va_last hx hb hK hP hD hS 0 3 rfl rfl (by unfold vp_in; decide) dL_count_7 (fun H locs hP hD hS => ?_)
    have hP : va_P (dC, dI) cls2 (ow q cI cZ cG cL o (vp_updL h 0 ((xCntL a f n ms (0) (n + 1) 0 0 w).1).toInt64) ((a, f, (xCntL a f n ms (0) (n + 1) 0 0 w).2)).1 ((a, f, (xCntL a f n ms (0) (n + 1) 0 0 w).2)).2.1 ((a, f, (xCntL a f n ms (0) (n + 1) 0 0 w).2)).2.2) H := hP
    have hD : va_D A (ow q cI cZ cG cL o (vp_updL h 0 ((xCntL a f n ms (0) (n + 1) 0 0 w).1).toInt64) ((a, f, (xCntL a f n ms (0) (n + 1) 0 0 w).2)).1 ((a, f, (xCntL a f n ms (0) (n + 1) 0 0 w).2)).2.1 ((a, f, (xCntL a f n ms (0) (n + 1) 0 0 w).2)).2.2) := hD
    refine lv_goto (tgt := 14) hx hb dL_count_8 (by decide) ?_
    refine lv_iconst (v := 0) hx hb dL_count_14 (by decide) ?_
    exact W.iret (v := 0) hx hb hr (fun t ht hW => ⟨⟨0, ((a, f, (xCntL a f n ms (0) (n + 1) 0 0 w).2), vp_updL h 0 ((xCntL a f n ms (0) (n + 1) 0 0 w).1).toInt64), rfl, Or.inl (⟨rfl, hg, rfl⟩), by rw [ht]; exact hP, va_K.moved hW.alike hK, hD⟩, hS.F ht⟩) hS.2.2 dL_count_15
set_option maxHeartbeats 4000000 in
set_option maxRecDepth 100000 in
/-- the law's latest -/
theorem tL_latest (l : Launch) (dC : Nat → ClassId) (dI : Nat → Nat → Nat) (q : Nat → Nat) (cI cZ cG cL : ClassId) (o : Nat) (h : Nat → Int64) (a : Nat → Nat → Int32) (f : Nat → Int32) (w : Nat → Nat → Int32) (sz : Nat) (n ms : Nat) (hn : n ≤ 16) (hf1 : f 1 = nI n) (hm : ms ≤ 5) (hf4 : f 4 = nI ms)  : Met l yL_latest wL_latest ({ frames := 8, cells := 1, slots := 6, locals := 142 }) (va_Pc [.ref (q 0), .ref (o)] (fun U => U.heap.size = sz ∧ va_P (dC, dI) cls2 (ow q cI cZ cG cL o h a f w) U.heap ∧ va_K (dC, dI) cls2 (ot cI cZ cG cL) U ∧ va_D (fun _ => True) (ow q cI cZ cG cL o h a f w) ∧ xE l (va_A (ow q cI cZ cG cL o h a f w) sz) U U.heap ∧ xNc U)) (va_Qi (fun (r0 : Int32) (u : XS × (Nat → Int64)) => (r0 = 0 ∧ ((1 ≤ ms)) ∧ u = ((a, f, (xCntL a f n ms (nI n - 1) (n + 1) 0 0 w).2), vp_updL h 0 ((xCntL a f n ms (nI n - 1) (n + 1) 0 0 w).1).toInt64)) ∨ (r0 = 1 ∧ (ms = 0) ∧ u = ((a, f, w), h))) (atO dC dI q cI cZ cG cL o (va_A (ow q cI cZ cG cL o h a f w) sz)) (va_A (ow q cI cZ cG cL o h a f w) sz)) 1 6 (va_A (ow q cI cZ cG cL o h a f w) sz) := by
  refine va_MetW (cc := cL_latest) (maxL := 3) (ret := some .int) (by decide) rfl ?_
  intro p e s m args below meth c s₁ B hml hv
  obtain ⟨rfl, hsz, hP, hK, hD0, hE, hNc⟩ := hv
  have hx := B.exec
  have hb := B.bytes
  have hr := B.returns
  have hbw : ∀ w ∈ bw, w.before _ s = true := fun w h => atoms_spec (ws := wL_latest) B.pre w (List.mem_cons_of_mem _ h)
  have hTb := vx_table (x := yL_latest) B (atoms_spec (ws := wL_latest) B.pre hL_latest List.mem_cons_self)
  have hown : s.vm.findClass "EventPatternsLaw" = some m.cls := findClass_of_methodNamed B.named
  subst hsz
  have hD := hD0.self (sz := s.heap.size)
  generalize hAe : va_A (ow q cI cZ cG cL o h a f w) s.heap.size = A at hD hE ⊢
  have hA : ∀ q : Nat, s.heap.size ≤ q → A q := fun q h => by rw [← hAe]; exact Or.inr h
  have hS : va_S A s.heap s.heap [] := va_S.rf
  have hl := lv_entry ([.ref (q 0), .ref (o)]) (n := 3) (Nat.le_of_ble_eq_true rfl)
  rw [lg_entry_eq]
  generalize (lg_sl ([.ref (q 0), .ref (o)]) ++ List.replicate (3 - (lg_sl ([.ref (q 0), .ref (o)])).length) Slot.unset).toArray = ls at hl ⊢
  have hl : lv_has ls 3 [(0, .ref (q 0)), (1, .ref (o))] := hl
  refine lv_aload_n hx hb dL_latest_0 rfl (lv_at hl 1 rfl) ?_
  refine lv_iconst (v := 0) hx hb dL_latest_1 (by decide) ?_
  refine lv_aload_n hx hb dL_latest_2 rfl (lv_at hl 0 rfl) ?_
  have hPc := hP.sub (ws' := xw q cI cZ cG a f w) [1, 2, 3, 4, 5, 6, 7, 8, 9, 10, 11, 12, 13, 14, 15, 16, 17, 18, 19, 20, 21, 22, 23, 24, 25, 26, 27] rfl
  have hDc := hD.sub (ws' := xw q cI cZ cG a f w) [1, 2, 3, 4, 5, 6, 7, 8, 9, 10, 11, 12, 13, 14, 15, 16, 17, 18, 19, 20, 21, 22, 23, 24, 25, 26, 27] (by decide) rfl
  have hKc := hK.sub (tys' := xt cI cZ cG) [0, 1, 2] rfl
  have hFc := va_free (wc := xw q cI cZ cG a f w) hD hS hA [1, 2, 3, 4, 5, 6, 7, 8, 9, 10, 11, 12, 13, 14, 15, 16, 17, 18, 19, 20, 21, 22, 23, 24, 25, 26, 27] rfl
  refine vx_calli (vx_runV (As := []) (rest := [.int (0), .ref (o)]) ⟨hx, hb, hml, hown, hbw⟩ (tX_latest l dC dI q cI cZ cG a f w s.heap.size n ms hn hf1 hm hf4) (cwV 0 hbw (bw_V km_L_31 ki_yX_latest ksel_yX_latest ki_EventPatterns kcX_latest) rfl rfl rfl (by decide +kernel) ⟨Nat.le_of_ble_eq_true rfl, Nat.le_of_ble_eq_true rfl⟩) ⟨fun a U g mk q => by obtain ⟨q0, q1, qP, qK, qD, qE⟩ := q; exact ⟨q0, q1, qP, va_K.moved (u := U) (U := U.calling g mk a) (Vm.Alike.refl U.vm) qK, qD, xE.same (s := U) rfl qE⟩, va_recv hK hP (ci := 0) (q0 := 1) rfl rfl, fun U hU hW => ⟨rfl, by rw [hU], by rw [hU]; exact hPc, va_K.moved hW.alike hKc, hDc.weaken (fun _ _ _ _ => trivial), by rw [hU]; exact ((hE.kept hS.2.1).narrow hFc).warm hW⟩⟩ rfl rfl hl.1 rfl (lv_room (Nat.le_of_ble_eq_true rfl)) dL_latest_3 ⟨Nat.le_of_ble_eq_true rfl, Nat.le_of_ble_eq_true rfl⟩) hS (fun q _ h => hFc q h) hFc (fun q _ h => hFc q h) (fun E ce q9 u t H1 locs ht hal hpx hBX hz1 hk1 hS hce hcv hcl => ?_) (fun r9 u t H1 locs ht hvm hq hB hz1 hk1 hS => ?_)
  · obtain ⟨herr, hP1, hK1, hD1⟩ := hBX
    rw [ht] at hP1
    obtain ⟨rfl, h9⟩ := herr
    obtain rfl : u = (a, f, w) := hpx.trans (rfl)
    obtain ⟨hP, hD⟩ := va_join (wr := [(o, .inl (cL, 1, .inr (.inl h)))]) (w1 := xw q cI cZ cG ((a, f, w)).1 ((a, f, w)).2.1 ((a, f, w)).2.2) hP hD [1, 2, 3, 4, 5, 6, 7, 8, 9, 10, 11, 12, 13, 14, 15, 16, 17, 18, 19, 20, 21, 22, 23, 24, 25, 26, 27] [0] rfl rfl (by decide) (by decide) hk1 hFc hP1 hD1
    have hP : va_P (dC, dI) cls2 (ow q cI cZ cG cL o h ((a, f, w)).1 ((a, f, w)).2.1 ((a, f, w)).2.2) H1 := hP
    have hD : va_D A (ow q cI cZ cG cL o h ((a, f, w)).1 ((a, f, w)).2.1 ((a, f, w)).2.2) := hD
    refine vx_catch hown [] (⟨0, 8, 11, 29⟩ : ExceptionTableEntry) [] hTb (fun z hz => absurd hz List.not_mem_nil) (by decide) (by decide) (hbw _ kl_L_29) (va_Nw.use rfl (hE.2.2.2.1 _ (by decide))) hce hcv hcl ?_
    refine lv_astore_n (lv' := [(2, .ref (q9)), (0, .ref (q 0)), (1, .ref (o))]) hx hb dL_latest_11 rfl hl (by decide) rfl (fun ls hl => ?_)
    refine lv_iconst (v := 1) hx hb dL_latest_12 (by decide) ?_
    exact W.iret (v := 1) hx hb hr (fun t ht hW => ⟨⟨1, ((a, f, w), h), rfl, Or.inr (⟨rfl, h9, rfl⟩), by rw [ht]; exact hP, va_K.moved hW.alike hK, hD⟩, hS.F ht⟩) hS.2.2 dL_latest_13
  · obtain ⟨hg, rfl, rfl⟩ := hq
    obtain ⟨hP1, hK1, hD1⟩ := hB
    rw [ht] at hP1
    obtain ⟨hP, hD⟩ := va_join (wr := [(o, .inl (cL, 1, .inr (.inl h)))]) (w1 := xw q cI cZ cG ((a, f, (xCntL a f n ms (nI n - 1) (n + 1) 0 0 w).2)).1 ((a, f, (xCntL a f n ms (nI n - 1) (n + 1) 0 0 w).2)).2.1 ((a, f, (xCntL a f n ms (nI n - 1) (n + 1) 0 0 w).2)).2.2) hP hD [1, 2, 3, 4, 5, 6, 7, 8, 9, 10, 11, 12, 13, 14, 15, 16, 17, 18, 19, 20, 21, 22, 23, 24, 25, 26, 27] [0] rfl rfl (by decide) (by decide) hk1 hFc hP1 hD1
    have hP : va_P (dC, dI) cls2 (ow q cI cZ cG cL o h ((a, f, (xCntL a f n ms (nI n - 1) (n + 1) 0 0 w).2)).1 ((a, f, (xCntL a f n ms (nI n - 1) (n + 1) 0 0 w).2)).2.1 ((a, f, (xCntL a f n ms (nI n - 1) (n + 1) 0 0 w).2)).2.2) H1 := hP
    have hD : va_D A (ow q cI cZ cG cL o h ((a, f, (xCntL a f n ms (nI n - 1) (n + 1) 0 0 w).2)).1 ((a, f, (xCntL a f n ms (nI n - 1) (n + 1) 0 0 w).2)).2.1 ((a, f, (xCntL a f n ms (nI n - 1) (n + 1) 0 0 w).2)).2.2) := hD
    generalize H1 = H at hP hS ⊢
    refine lv_i2l hx hb dL_latest_6 rfl ?_
    refine va_last hx hb hK hP hD hS 0 3 rfl rfl (by unfold vp_in; decide) dL_latest_7 (fun H locs hP hD hS => ?_)
    have hP : va_P (dC, dI) cls2 (ow q cI cZ cG cL o (vp_updL h 0 ((xCntL a f n ms (nI n - 1) (n + 1) 0 0 w).1).toInt64) ((a, f, (xCntL a f n ms (nI n - 1) (n + 1) 0 0 w).2)).1 ((a, f, (xCntL a f n ms (nI n - 1) (n + 1) 0 0 w).2)).2.1 ((a, f, (xCntL a f n ms (nI n - 1) (n + 1) 0 0 w).2)).2.2) H := hP
    have hD : va_D A (ow q cI cZ cG cL o (vp_updL h 0 ((xCntL a f n ms (nI n - 1) (n + 1) 0 0 w).1).toInt64) ((a, f, (xCntL a f n ms (nI n - 1) (n + 1) 0 0 w).2)).1 ((a, f, (xCntL a f n ms (nI n - 1) (n + 1) 0 0 w).2)).2.1 ((a, f, (xCntL a f n ms (nI n - 1) (n + 1) 0 0 w).2)).2.2) := hD
    refine lv_goto (tgt := 14) hx hb dL_latest_8 (by decide) ?_
    refine lv_iconst (v := 0) hx hb dL_latest_14 (by decide) ?_
    exact W.iret (v := 0) hx hb hr (fun t ht hW => ⟨⟨0, ((a, f, (xCntL a f n ms (nI n - 1) (n + 1) 0 0 w).2), vp_updL h 0 ((xCntL a f n ms (nI n - 1) (n + 1) 0 0 w).1).toInt64), rfl, Or.inl (⟨rfl, hg, rfl⟩), by rw [ht]; exact hP, va_K.moved hW.alike hK, hD⟩, hS.F ht⟩) hS.2.2 dL_latest_15
set_option maxHeartbeats 4000000 in
set_option maxRecDepth 100000 in
/-- the law's length -/
theorem tL_length (l : Launch) (dC : Nat → ClassId) (dI : Nat → Nat → Nat) (q : Nat → Nat) (cI cZ cG cL : ClassId) (o : Nat) (h : Nat → Int64) (a : Nat → Nat → Int32) (f : Nat → Int32) (w : Nat → Nat → Int32) (sz : Nat) (n ms : Nat) (kk : Int32) (hn : n ≤ 16) (hf1 : f 1 = nI n) (hm : ms ≤ 5) (hf4 : f 4 = nI ms)  : Met l yL_length wL_length ({ frames := 8, cells := 2, slots := 12, locals := 165 }) (va_Pc [.ref (q 0), .int (kk), .ref (o)] (fun U => U.heap.size = sz ∧ va_P (dC, dI) cls2 (ow q cI cZ cG cL o h a f w) U.heap ∧ va_K (dC, dI) cls2 (ot cI cZ cG cL) U ∧ va_D (fun _ => True) (ow q cI cZ cG cL o h a f w) ∧ xE l (va_A (ow q cI cZ cG cL o h a f w) sz) U U.heap ∧ xNc U)) (va_Qi (fun (r0 : Int32) (u : XS × (Nat → Int64)) => (r0 = 0 ∧ ((1 ≤ ms ∧ (xFind a f w n ms kk).1 = true)) ∧ u = ((xFind a f w n ms kk).2, vp_updL h 0 ((xFind a f w n ms kk).2.2.1 5).toInt64)) ∨ (r0 = 1 ∧ (ms = 0) ∧ u = ((a, f, w), h)) ∨ (r0 = 2 ∧ (1 ≤ ms ∧ (xFind a f w n ms kk).1 = false) ∧ u = ((xFind a f w n ms kk).2, h))) (atO dC dI q cI cZ cG cL o (va_A (ow q cI cZ cG cL o h a f w) sz)) (va_A (ow q cI cZ cG cL o h a f w) sz)) 2 12 (va_A (ow q cI cZ cG cL o h a f w) sz) := by
  refine va_MetW (cc := cL_length) (maxL := 4) (ret := some .int) (by decide) rfl ?_
  intro p e s m args below meth c s₁ B hml hv
  obtain ⟨rfl, hsz, hP, hK, hD0, hE, hNc⟩ := hv
  have hx := B.exec
  have hb := B.bytes
  have hr := B.returns
  have hbw : ∀ w ∈ bw, w.before _ s = true := fun w h => atoms_spec (ws := wL_length) B.pre w (List.mem_cons_of_mem _ h)
  have hTb := vx_table (x := yL_length) B (atoms_spec (ws := wL_length) B.pre hL_length List.mem_cons_self)
  have hown : s.vm.findClass "EventPatternsLaw" = some m.cls := findClass_of_methodNamed B.named
  subst hsz
  have hD := hD0.self (sz := s.heap.size)
  generalize hAe : va_A (ow q cI cZ cG cL o h a f w) s.heap.size = A at hD hE ⊢
  have hA : ∀ q : Nat, s.heap.size ≤ q → A q := fun q h => by rw [← hAe]; exact Or.inr h
  have hS : va_S A s.heap s.heap [] := va_S.rf
  have hl := lv_entry ([.ref (q 0), .int (kk), .ref (o)]) (n := 4) (Nat.le_of_ble_eq_true rfl)
  rw [lg_entry_eq]
  generalize (lg_sl ([.ref (q 0), .int (kk), .ref (o)]) ++ List.replicate (4 - (lg_sl ([.ref (q 0), .int (kk), .ref (o)])).length) Slot.unset).toArray = ls at hl ⊢
  have hl : lv_has ls 4 [(0, .ref (q 0)), (1, .int (kk)), (2, .ref (o))] := hl
  refine lv_aload_n hx hb dL_length_0 rfl (lv_at hl 2 rfl) ?_
  refine lv_iconst (v := 0) hx hb dL_length_1 (by decide) ?_
  refine lv_aload_n hx hb dL_length_2 rfl (lv_at hl 0 rfl) ?_
  refine lv_iload_n hx hb dL_length_3 rfl (lv_at hl 1 rfl) ?_
  have hPc := hP.sub (ws' := xw q cI cZ cG a f w) [1, 2, 3, 4, 5, 6, 7, 8, 9, 10, 11, 12, 13, 14, 15, 16, 17, 18, 19, 20, 21, 22, 23, 24, 25, 26, 27] rfl
  have hDc := hD.sub (ws' := xw q cI cZ cG a f w) [1, 2, 3, 4, 5, 6, 7, 8, 9, 10, 11, 12, 13, 14, 15, 16, 17, 18, 19, 20, 21, 22, 23, 24, 25, 26, 27] (by decide) rfl
  have hKc := hK.sub (tys' := xt cI cZ cG) [0, 1, 2] rfl
  have hFc := va_free (wc := xw q cI cZ cG a f w) hD hS hA [1, 2, 3, 4, 5, 6, 7, 8, 9, 10, 11, 12, 13, 14, 15, 16, 17, 18, 19, 20, 21, 22, 23, 24, 25, 26, 27] rfl
  refine vx_calli (vx_runV (As := [.int (kk)]) (rest := [.int (0), .ref (o)]) ⟨hx, hb, hml, hown, hbw⟩ (tX_length l dC dI q cI cZ cG a f w s.heap.size n ms kk hn hf1 hm hf4) (cwV 1 hbw (bw_V km_L_34 ki_yX_length ksel_yX_length ki_EventPatterns kcX_length) rfl rfl rfl (by decide +kernel) ⟨Nat.le_of_ble_eq_true rfl, Nat.le_of_ble_eq_true rfl⟩) ⟨fun a U g mk q => by obtain ⟨q0, q1, qP, qK, qD, qE⟩ := q; exact ⟨q0, q1, qP, va_K.moved (u := U) (U := U.calling g mk a) (Vm.Alike.refl U.vm) qK, qD, xE.same (s := U) rfl qE⟩, va_recv hK hP (ci := 0) (q0 := 1) rfl rfl, fun U hU hW => ⟨rfl, by rw [hU], by rw [hU]; exact hPc, va_K.moved hW.alike hKc, hDc.weaken (fun _ _ _ _ => trivial), by rw [hU]; exact ((hE.kept hS.2.1).narrow hFc).warm hW⟩⟩ rfl rfl hl.1 rfl (lv_room (Nat.le_of_ble_eq_true rfl)) dL_length_4 ⟨Nat.le_of_ble_eq_true rfl, Nat.le_of_ble_eq_true rfl⟩) hS (fun q _ h => hFc q h) hFc (fun q _ h => hFc q h) (fun E ce q9 u t H1 locs ht hal hpx hBX hz1 hk1 hS hce hcv hcl => ?_) (fun r9 u t H1 locs ht hvm hq hB hz1 hk1 hS => ?_)
  · obtain ⟨herr, hP1, hK1, hD1⟩ := hBX
    rw [ht] at hP1
    rcases herr with ⟨rfl, h9⟩ | ⟨rfl, h9⟩
    · obtain rfl : u = (a, f, w) := hpx.trans (if_pos h9)
      obtain ⟨hP, hD⟩ := va_join (wr := [(o, .inl (cL, 1, .inr (.inl h)))]) (w1 := xw q cI cZ cG ((a, f, w)).1 ((a, f, w)).2.1 ((a, f, w)).2.2) hP hD [1, 2, 3, 4, 5, 6, 7, 8, 9, 10, 11, 12, 13, 14, 15, 16, 17, 18, 19, 20, 21, 22, 23, 24, 25, 26, 27] [0] rfl rfl (by decide) (by decide) hk1 hFc hP1 hD1
      have hP : va_P (dC, dI) cls2 (ow q cI cZ cG cL o h ((a, f, w)).1 ((a, f, w)).2.1 ((a, f, w)).2.2) H1 := hP
      have hD : va_D A (ow q cI cZ cG cL o h ((a, f, w)).1 ((a, f, w)).2.1 ((a, f, w)).2.2) := hD
      refine vx_catch hown [] (⟨0, 9, 12, 29⟩ : ExceptionTableEntry) [(⟨0, 9, 15, 38⟩ : ExceptionTableEntry)] hTb (fun z hz => absurd hz List.not_mem_nil) (by decide) (by decide) (hbw _ kl_L_29) (va_Nw.use rfl (hE.2.2.2.1 _ (by decide))) hce hcv hcl ?_
      refine lv_astore_n (lv' := [(3, .ref (q9)), (0, .ref (q 0)), (1, .int (kk)), (2, .ref (o))]) hx hb dL_length_12 rfl hl (by decide) rfl (fun ls hl => ?_)
      refine lv_iconst (v := 1) hx hb dL_length_13 (by decide) ?_
      exact W.iret (v := 1) hx hb hr (fun t ht hW => ⟨⟨1, ((a, f, w), h), rfl, Or.inr (Or.inl (⟨rfl, h9, rfl⟩)), by rw [ht]; exact hP, va_K.moved hW.alike hK, hD⟩, hS.F ht⟩) hS.2.2 dL_length_14
    · obtain rfl : u = (xFind a f w n ms kk).2 := hpx.trans (if_neg (by omega))
      obtain ⟨hP, hD⟩ := va_join (wr := [(o, .inl (cL, 1, .inr (.inl h)))]) (w1 := xw q cI cZ cG ((xFind a f w n ms kk).2).1 ((xFind a f w n ms kk).2).2.1 ((xFind a f w n ms kk).2).2.2) hP hD [1, 2, 3, 4, 5, 6, 7, 8, 9, 10, 11, 12, 13, 14, 15, 16, 17, 18, 19, 20, 21, 22, 23, 24, 25, 26, 27] [0] rfl rfl (by decide) (by decide) hk1 hFc hP1 hD1
      have hP : va_P (dC, dI) cls2 (ow q cI cZ cG cL o h ((xFind a f w n ms kk).2).1 ((xFind a f w n ms kk).2).2.1 ((xFind a f w n ms kk).2).2.2) H1 := hP
      have hD : va_D A (ow q cI cZ cG cL o h ((xFind a f w n ms kk).2).1 ((xFind a f w n ms kk).2).2.1 ((xFind a f w n ms kk).2).2.2) := hD
      refine vx_catch hown [(⟨0, 9, 12, 29⟩ : ExceptionTableEntry)] (⟨0, 9, 15, 38⟩ : ExceptionTableEntry) [] hTb (fun z hz => by obtain rfl := List.mem_singleton.mp hz; exact Or.inr ⟨by decide, _, hbw _ kl_L_29, hNc.2.1⟩) (by decide) (by decide) (hbw _ kl_L_38) (va_Nw.use rfl (hE.2.2.2.1 _ (by decide))) hce hcv hcl ?_
      refine lv_astore_n (lv' := [(3, .ref (q9)), (0, .ref (q 0)), (1, .int (kk)), (2, .ref (o))]) hx hb dL_length_15 rfl hl (by decide) rfl (fun ls hl => ?_)
      refine lv_iconst (v := 2) hx hb dL_length_16 (by decide) ?_
      exact W.iret (v := 2) hx hb hr (fun t ht hW => ⟨⟨2, ((xFind a f w n ms kk).2, h), rfl, Or.inr (Or.inr (⟨rfl, h9, rfl⟩)), by rw [ht]; exact hP, va_K.moved hW.alike hK, hD⟩, hS.F ht⟩) hS.2.2 dL_length_17
  · obtain ⟨hg, rfl, rfl⟩ := hq
    obtain ⟨hP1, hK1, hD1⟩ := hB
    rw [ht] at hP1
    obtain ⟨hP, hD⟩ := va_join (wr := [(o, .inl (cL, 1, .inr (.inl h)))]) (w1 := xw q cI cZ cG ((xFind a f w n ms kk).2).1 ((xFind a f w n ms kk).2).2.1 ((xFind a f w n ms kk).2).2.2) hP hD [1, 2, 3, 4, 5, 6, 7, 8, 9, 10, 11, 12, 13, 14, 15, 16, 17, 18, 19, 20, 21, 22, 23, 24, 25, 26, 27] [0] rfl rfl (by decide) (by decide) hk1 hFc hP1 hD1
    have hP : va_P (dC, dI) cls2 (ow q cI cZ cG cL o h ((xFind a f w n ms kk).2).1 ((xFind a f w n ms kk).2).2.1 ((xFind a f w n ms kk).2).2.2) H1 := hP
    have hD : va_D A (ow q cI cZ cG cL o h ((xFind a f w n ms kk).2).1 ((xFind a f w n ms kk).2).2.1 ((xFind a f w n ms kk).2).2.2) := hD
    generalize H1 = H at hP hS ⊢
    refine lv_i2l hx hb dL_length_7 rfl ?_
    refine va_last hx hb hK hP hD hS 0 3 rfl rfl (by unfold vp_in; decide) dL_length_8 (fun H locs hP hD hS => ?_)
    have hP : va_P (dC, dI) cls2 (ow q cI cZ cG cL o (vp_updL h 0 ((xFind a f w n ms kk).2.2.1 5).toInt64) ((xFind a f w n ms kk).2).1 ((xFind a f w n ms kk).2).2.1 ((xFind a f w n ms kk).2).2.2) H := hP
    have hD : va_D A (ow q cI cZ cG cL o (vp_updL h 0 ((xFind a f w n ms kk).2.2.1 5).toInt64) ((xFind a f w n ms kk).2).1 ((xFind a f w n ms kk).2).2.1 ((xFind a f w n ms kk).2).2.2) := hD
    refine lv_goto (tgt := 18) hx hb dL_length_9 (by decide) ?_
    refine lv_iconst (v := 0) hx hb dL_length_18 (by decide) ?_
    exact W.iret (v := 0) hx hb hr (fun t ht hW => ⟨⟨0, ((xFind a f w n ms kk).2, vp_updL h 0 ((xFind a f w n ms kk).2.2.1 5).toInt64), rfl, Or.inl (⟨rfl, hg, rfl⟩), by rw [ht]; exact hP, va_K.moved hW.alike hK, hD⟩, hS.F ht⟩) hS.2.2 dL_length_19
set_option maxHeartbeats 4000000 in
set_option maxRecDepth 100000 in
/-- the law's match -/
theorem tL_match (l : Launch) (dC : Nat → ClassId) (dI : Nat → Nat → Nat) (q : Nat → Nat) (cI cZ cG cL : ClassId) (o : Nat) (h : Nat → Int64) (a : Nat → Nat → Int32) (f : Nat → Int32) (w : Nat → Nat → Int32) (sz : Nat) (n cm ms : Nat) (kk ix wh : Int32) (hn : n ≤ 16) (hf1 : f 1 = nI n) (hcm : n ≤ cm) (hc4 : cm ≤ 400) (hf0 : f 0 = nI cm) (hm : ms ≤ 5) (hf4 : f 4 = nI ms)  : Met l yL_match wL_match ({ frames := 8, cells := 3, slots := 18, locals := 167 }) (va_Pc [.ref (q 0), .int (kk), .int (ix), .int (wh), .ref (o)] (fun U => U.heap.size = sz ∧ va_P (dC, dI) cls2 (ow q cI cZ cG cL o h a f w) U.heap ∧ va_K (dC, dI) cls2 (ot cI cZ cG cL) U ∧ va_D (fun _ => True) (ow q cI cZ cG cL o h a f w) ∧ xE l (va_A (ow q cI cZ cG cL o h a f w) sz) U U.heap ∧ xNc U)) (va_Qi (fun (r0 : Int32) (u : XS × (Nat → Int64)) => (r0 = 0 ∧ ((1 ≤ ms ∧ (xFind a f w n ms kk).1 = true ∧ ¬ (ix < 0 ∨ (xFind a f w n ms kk).2.2.1 5 ≤ ix)) ∧ (wh = 0 ∨ ¬ wh = 0 ∧ wh = 1)) ∧ u = ((xFind a f w n ms kk).2, vp_updL h 0 ((if wh = 0 then nI (cm - n) + (xFind a f w n ms kk).2.1 7 ix.toNatClampNeg else (xFind a f w n ms kk).2.1 8 ix.toNatClampNeg)).toInt64)) ∨ (r0 = 1 ∧ (ms = 0) ∧ u = ((a, f, w), h)) ∨ (r0 = 2 ∧ (1 ≤ ms ∧ ((xFind a f w n ms kk).1 = false ∨ (xFind a f w n ms kk).1 = true ∧ (ix < 0 ∨ (xFind a f w n ms kk).2.2.1 5 ≤ ix))) ∧ u = ((xFind a f w n ms kk).2, h)) ∨ (r0 = 3 ∧ (1 ≤ ms ∧ (xFind a f w n ms kk).1 = true ∧ ¬ (ix < 0 ∨ (xFind a f w n ms kk).2.2.1 5 ≤ ix) ∧ ¬ wh = 0 ∧ ¬ wh = 1) ∧ u = ((xFind a f w n ms kk).2, h))) (atO dC dI q cI cZ cG cL o (va_A (ow q cI cZ cG cL o h a f w) sz)) (va_A (ow q cI cZ cG cL o h a f w) sz)) 3 18 (va_A (ow q cI cZ cG cL o h a f w) sz) := by
  refine va_MetW (cc := cL_match) (maxL := 6) (ret := some .int) (by decide) rfl ?_
  intro p e s m args below meth c s₁ B hml hv
  obtain ⟨rfl, hsz, hP, hK, hD0, hE, hNc⟩ := hv
  have hx := B.exec
  have hb := B.bytes
  have hr := B.returns
  have hbw : ∀ w ∈ bw, w.before _ s = true := fun w h => atoms_spec (ws := wL_match) B.pre w (List.mem_cons_of_mem _ h)
  have hTb := vx_table (x := yL_match) B (atoms_spec (ws := wL_match) B.pre hL_match List.mem_cons_self)
  have hown : s.vm.findClass "EventPatternsLaw" = some m.cls := findClass_of_methodNamed B.named
  subst hsz
  have hD := hD0.self (sz := s.heap.size)
  generalize hAe : va_A (ow q cI cZ cG cL o h a f w) s.heap.size = A at hD hE ⊢
  have hA : ∀ q : Nat, s.heap.size ≤ q → A q := fun q h => by rw [← hAe]; exact Or.inr h
  have hS : va_S A s.heap s.heap [] := va_S.rf
  have hl := lv_entry ([.ref (q 0), .int (kk), .int (ix), .int (wh), .ref (o)]) (n := 6) (Nat.le_of_ble_eq_true rfl)
  rw [lg_entry_eq]
  generalize (lg_sl ([.ref (q 0), .int (kk), .int (ix), .int (wh), .ref (o)]) ++ List.replicate (6 - (lg_sl ([.ref (q 0), .int (kk), .int (ix), .int (wh), .ref (o)])).length) Slot.unset).toArray = ls at hl ⊢
  have hl : lv_has ls 6 [(0, .ref (q 0)), (1, .int (kk)), (2, .int (ix)), (3, .int (wh)), (4, .ref (o))] := hl
  refine lv_aload hx hb dL_match_0 (lv_at hl 4 rfl) ?_
  refine lv_iconst (v := 0) hx hb dL_match_2 (by decide) ?_
  refine lv_aload_n hx hb dL_match_3 rfl (lv_at hl 0 rfl) ?_
  refine lv_iload_n hx hb dL_match_4 rfl (lv_at hl 1 rfl) ?_
  refine lv_iload_n hx hb dL_match_5 rfl (lv_at hl 2 rfl) ?_
  refine lv_iload_n hx hb dL_match_6 rfl (lv_at hl 3 rfl) ?_
  have hPc := hP.sub (ws' := xw q cI cZ cG a f w) [1, 2, 3, 4, 5, 6, 7, 8, 9, 10, 11, 12, 13, 14, 15, 16, 17, 18, 19, 20, 21, 22, 23, 24, 25, 26, 27] rfl
  have hDc := hD.sub (ws' := xw q cI cZ cG a f w) [1, 2, 3, 4, 5, 6, 7, 8, 9, 10, 11, 12, 13, 14, 15, 16, 17, 18, 19, 20, 21, 22, 23, 24, 25, 26, 27] (by decide) rfl
  have hKc := hK.sub (tys' := xt cI cZ cG) [0, 1, 2] rfl
  have hFc := va_free (wc := xw q cI cZ cG a f w) hD hS hA [1, 2, 3, 4, 5, 6, 7, 8, 9, 10, 11, 12, 13, 14, 15, 16, 17, 18, 19, 20, 21, 22, 23, 24, 25, 26, 27] rfl
  refine vx_calli (vx_runV (As := [.int (kk), .int (ix), .int (wh)]) (rest := [.int (0), .ref (o)]) ⟨hx, hb, hml, hown, hbw⟩ (tX_match l dC dI q cI cZ cG a f w s.heap.size n cm ms kk ix wh hn hf1 hcm hc4 hf0 hm hf4) (cwV 3 hbw (bw_V km_L_40 ki_yX_match ksel_yX_match ki_EventPatterns kcX_match) rfl rfl rfl (by decide +kernel) ⟨Nat.le_of_ble_eq_true rfl, Nat.le_of_ble_eq_true rfl⟩) ⟨fun a U g mk q => by obtain ⟨q0, q1, qP, qK, qD, qE⟩ := q; exact ⟨q0, q1, qP, va_K.moved (u := U) (U := U.calling g mk a) (Vm.Alike.refl U.vm) qK, qD, xE.same (s := U) rfl qE⟩, va_recv hK hP (ci := 0) (q0 := 1) rfl rfl, fun U hU hW => ⟨rfl, by rw [hU], by rw [hU]; exact hPc, va_K.moved hW.alike hKc, hDc.weaken (fun _ _ _ _ => trivial), by rw [hU]; exact ((hE.kept hS.2.1).narrow hFc).warm hW⟩⟩ rfl rfl hl.1 rfl (lv_room (Nat.le_of_ble_eq_true rfl)) dL_match_7 ⟨Nat.le_of_ble_eq_true rfl, Nat.le_of_ble_eq_true rfl⟩) hS (fun q _ h => hFc q h) hFc (fun q _ h => hFc q h) (fun E ce q9 u t H1 locs ht hal hpx hBX hz1 hk1 hS hce hcv hcl => ?_) (fun r9 u t H1 locs ht hvm hq hB hz1 hk1 hS => ?_)
  · obtain ⟨herr, hP1, hK1, hD1⟩ := hBX
    rw [ht] at hP1
    rcases herr with ⟨rfl, h9⟩ | ⟨rfl, h9⟩ | ⟨rfl, h9⟩
    · obtain rfl : u = (a, f, w) := hpx.trans (if_pos h9)
      obtain ⟨hP, hD⟩ := va_join (wr := [(o, .inl (cL, 1, .inr (.inl h)))]) (w1 := xw q cI cZ cG ((a, f, w)).1 ((a, f, w)).2.1 ((a, f, w)).2.2) hP hD [1, 2, 3, 4, 5, 6, 7, 8, 9, 10, 11, 12, 13, 14, 15, 16, 17, 18, 19, 20, 21, 22, 23, 24, 25, 26, 27] [0] rfl rfl (by decide) (by decide) hk1 hFc hP1 hD1
      have hP : va_P (dC, dI) cls2 (ow q cI cZ cG cL o h ((a, f, w)).1 ((a, f, w)).2.1 ((a, f, w)).2.2) H1 := hP
      have hD : va_D A (ow q cI cZ cG cL o h ((a, f, w)).1 ((a, f, w)).2.1 ((a, f, w)).2.2) := hD
      refine vx_catch hown [] (⟨0, 12, 15, 29⟩ : ExceptionTableEntry) [(⟨0, 12, 19, 38⟩ : ExceptionTableEntry), (⟨0, 12, 23, 13⟩ : ExceptionTableEntry)] hTb (fun z hz => absurd hz List.not_mem_nil) (by decide) (by decide) (hbw _ kl_L_29) (va_Nw.use rfl (hE.2.2.2.1 _ (by decide))) hce hcv hcl ?_
      refine lv_astore (lv' := [(5, .ref (q9)), (0, .ref (q 0)), (1, .int (kk)), (2, .int (ix)), (3, .int (wh)), (4, .ref (o))]) hx hb dL_match_15 hl (by decide) rfl (fun ls hl => ?_)
      refine lv_iconst (v := 1) hx hb dL_match_17 (by decide) ?_
      exact W.iret (v := 1) hx hb hr (fun t ht hW => ⟨⟨1, ((a, f, w), h), rfl, Or.inr (Or.inl (⟨rfl, h9, rfl⟩)), by rw [ht]; exact hP, va_K.moved hW.alike hK, hD⟩, hS.F ht⟩) hS.2.2 dL_match_18
    · obtain rfl : u = (xFind a f w n ms kk).2 := hpx.trans (if_neg (by omega))
      obtain ⟨hP, hD⟩ := va_join (wr := [(o, .inl (cL, 1, .inr (.inl h)))]) (w1 := xw q cI cZ cG ((xFind a f w n ms kk).2).1 ((xFind a f w n ms kk).2).2.1 ((xFind a f w n ms kk).2).2.2) hP hD [1, 2, 3, 4, 5, 6, 7, 8, 9, 10, 11, 12, 13, 14, 15, 16, 17, 18, 19, 20, 21, 22, 23, 24, 25, 26, 27] [0] rfl rfl (by decide) (by decide) hk1 hFc hP1 hD1
      have hP : va_P (dC, dI) cls2 (ow q cI cZ cG cL o h ((xFind a f w n ms kk).2).1 ((xFind a f w n ms kk).2).2.1 ((xFind a f w n ms kk).2).2.2) H1 := hP
      have hD : va_D A (ow q cI cZ cG cL o h ((xFind a f w n ms kk).2).1 ((xFind a f w n ms kk).2).2.1 ((xFind a f w n ms kk).2).2.2) := hD
      refine vx_catch hown [(⟨0, 12, 15, 29⟩ : ExceptionTableEntry)] (⟨0, 12, 19, 38⟩ : ExceptionTableEntry) [(⟨0, 12, 23, 13⟩ : ExceptionTableEntry)] hTb (fun z hz => by obtain rfl := List.mem_singleton.mp hz; exact Or.inr ⟨by decide, _, hbw _ kl_L_29, hNc.2.1⟩) (by decide) (by decide) (hbw _ kl_L_38) (va_Nw.use rfl (hE.2.2.2.1 _ (by decide))) hce hcv hcl ?_
      refine lv_astore (lv' := [(5, .ref (q9)), (0, .ref (q 0)), (1, .int (kk)), (2, .int (ix)), (3, .int (wh)), (4, .ref (o))]) hx hb dL_match_19 hl (by decide) rfl (fun ls hl => ?_)
      refine lv_iconst (v := 2) hx hb dL_match_21 (by decide) ?_
      exact W.iret (v := 2) hx hb hr (fun t ht hW => ⟨⟨2, ((xFind a f w n ms kk).2, h), rfl, Or.inr (Or.inr (Or.inl (⟨rfl, h9, rfl⟩))), by rw [ht]; exact hP, va_K.moved hW.alike hK, hD⟩, hS.F ht⟩) hS.2.2 dL_match_22
    · obtain rfl : u = (xFind a f w n ms kk).2 := hpx.trans (if_neg (by omega))
      obtain ⟨hP, hD⟩ := va_join (wr := [(o, .inl (cL, 1, .inr (.inl h)))]) (w1 := xw q cI cZ cG ((xFind a f w n ms kk).2).1 ((xFind a f w n ms kk).2).2.1 ((xFind a f w n ms kk).2).2.2) hP hD [1, 2, 3, 4, 5, 6, 7, 8, 9, 10, 11, 12, 13, 14, 15, 16, 17, 18, 19, 20, 21, 22, 23, 24, 25, 26, 27] [0] rfl rfl (by decide) (by decide) hk1 hFc hP1 hD1
      have hP : va_P (dC, dI) cls2 (ow q cI cZ cG cL o h ((xFind a f w n ms kk).2).1 ((xFind a f w n ms kk).2).2.1 ((xFind a f w n ms kk).2).2.2) H1 := hP
      have hD : va_D A (ow q cI cZ cG cL o h ((xFind a f w n ms kk).2).1 ((xFind a f w n ms kk).2).2.1 ((xFind a f w n ms kk).2).2.2) := hD
      refine vx_catch hown [(⟨0, 12, 15, 29⟩ : ExceptionTableEntry), (⟨0, 12, 19, 38⟩ : ExceptionTableEntry)] (⟨0, 12, 23, 13⟩ : ExceptionTableEntry) [] hTb (fun z hz => by
          rcases List.mem_cons.mp hz with rfl | hz
          · exact Or.inr ⟨by decide, _, hbw _ kl_L_29, hNc.2.2.1⟩
          · obtain rfl := List.mem_singleton.mp hz; exact Or.inr ⟨by decide, _, hbw _ kl_L_38, hNc.2.2.2⟩) (by decide) (by decide) (hbw _ kl_L_13) (va_Nw.use rfl (hE.2.2.2.1 _ (by decide))) hce hcv hcl ?_
      refine lv_astore (lv' := [(5, .ref (q9)), (0, .ref (q 0)), (1, .int (kk)), (2, .int (ix)), (3, .int (wh)), (4, .ref (o))]) hx hb dL_match_23 hl (by decide) rfl (fun ls hl => ?_)
      refine lv_iconst (v := 3) hx hb dL_match_25 (by decide) ?_
      exact W.iret (v := 3) hx hb hr (fun t ht hW => ⟨⟨3, ((xFind a f w n ms kk).2, h), rfl, Or.inr (Or.inr (Or.inr (⟨rfl, h9, rfl⟩))), by rw [ht]; exact hP, va_K.moved hW.alike hK, hD⟩, hS.F ht⟩) hS.2.2 dL_match_26
  · obtain ⟨hg, ⟨hg2, rfl⟩, rfl⟩ := hq
    obtain ⟨hP1, hK1, hD1⟩ := hB
    rw [ht] at hP1
    obtain ⟨hP, hD⟩ := va_join (wr := [(o, .inl (cL, 1, .inr (.inl h)))]) (w1 := xw q cI cZ cG ((xFind a f w n ms kk).2).1 ((xFind a f w n ms kk).2).2.1 ((xFind a f w n ms kk).2).2.2) hP hD [1, 2, 3, 4, 5, 6, 7, 8, 9, 10, 11, 12, 13, 14, 15, 16, 17, 18, 19, 20, 21, 22, 23, 24, 25, 26, 27] [0] rfl rfl (by decide) (by decide) hk1 hFc hP1 hD1
    have hP : va_P (dC, dI) cls2 (ow q cI cZ cG cL o h ((xFind a f w n ms kk).2).1 ((xFind a f w n ms kk).2).2.1 ((xFind a f w n ms kk).2).2.2) H1 := hP
    have hD : va_D A (ow q cI cZ cG cL o h ((xFind a f w n ms kk).2).1 ((xFind a f w n ms kk).2).2.1 ((xFind a f w n ms kk).2).2.2) := hD
    generalize H1 = H at hP hS ⊢
    refine lv_i2l hx hb dL_match_10 rfl ?_
    refine va_last hx hb hK hP hD hS 0 3 rfl rfl (by unfold vp_in; decide) dL_match_11 (fun H locs hP hD hS => ?_)
    have hP : va_P (dC, dI) cls2 (ow q cI cZ cG cL o (vp_updL h 0 ((if wh = 0 then nI (cm - n) + (xFind a f w n ms kk).2.1 7 ix.toNatClampNeg else (xFind a f w n ms kk).2.1 8 ix.toNatClampNeg)).toInt64) ((xFind a f w n ms kk).2).1 ((xFind a f w n ms kk).2).2.1 ((xFind a f w n ms kk).2).2.2) H := hP
    have hD : va_D A (ow q cI cZ cG cL o (vp_updL h 0 ((if wh = 0 then nI (cm - n) + (xFind a f w n ms kk).2.1 7 ix.toNatClampNeg else (xFind a f w n ms kk).2.1 8 ix.toNatClampNeg)).toInt64) ((xFind a f w n ms kk).2).1 ((xFind a f w n ms kk).2).2.1 ((xFind a f w n ms kk).2).2.2) := hD
    refine lv_goto (tgt := 27) hx hb dL_match_12 (by decide) ?_
    refine lv_iconst (v := 0) hx hb dL_match_27 (by decide) ?_
    exact W.iret (v := 0) hx hb hr (fun t ht hW => ⟨⟨0, ((xFind a f w n ms kk).2, vp_updL h 0 ((if wh = 0 then nI (cm - n) + (xFind a f w n ms kk).2.1 7 ix.toNatClampNeg else (xFind a f w n ms kk).2.1 8 ix.toNatClampNeg)).toInt64), rfl, Or.inl (⟨rfl, ⟨hg, hg2⟩, rfl⟩), by rw [ht]; exact hP, va_K.moved hW.alike hK, hD⟩, hS.F ht⟩) hS.2.2 dL_match_28
