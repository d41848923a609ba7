/-! THE REFERENCE: all, count, latest -/
set_option maxHeartbeats 4000000 in
set_option maxRecDepth 100000 in
theorem lM_all (l : Launch) (dC : Nat → ClassId) (dI : Nat → Nat → Nat) (r : Nat → Nat) (cI cZ cG : ClassId) (b : Nat → Nat → Int32) (g : Nat → Int32) {p : Program} {e : Env} {s : State} {m : MethodId} {args : Array Value} {below : List Frame} {meth : Method} {c : Code} {Q : State → Prop} {A : Nat → Prop} (ev ms : Nat) (lt : Bool) (hev : ev ≤ 400) (hg1 : g 1 = nI ev) (h0 : 1 ≤ ms) (hm : ms ≤ 5) (hg4 : g 4 = nI ms) {cells slots : Nat} (hcs : cells ≤ 0 ∧ slots ≤ 0) (hx : p.tables.exec = Jvm.exec) (hb : c.code = cM_all) (hml : c.maxLocals = 4) (hown : s.vm.findClass "EventPatternsModel" = some m.cls) (hbw : ∀ w ∈ bw, w.before args s = true) (hK : va_K (dC, dI) cls2 (xt cI cZ cG) s) (hA : ∀ q : Nat, s.heap.size ≤ q → A q) :
    ∀ (k fi A0 : Nat) (y : Nat → Int32) (H : Heap) (locs : List Loc) (ls : Array Slot), fi + k = ev → ev - 16 ≤ fi → lv_has ls 4 [(3, .int (nI fi)), (2, .int (nI A0)), (0, .ref (r 0)), (1, .int (bI lt))] → va_P (dC, dI) cls2 (mw r cI cZ (va_up b 7 (y)) g) H → va_D A (mw r cI cZ (va_up b 7 (y)) g) → va_S A s.heap H locs →
      (∀ (y : Nat → Int32) (H : Heap) (locs : List Loc) (ls : Array Slot), lv_has ls 4 [(2, .int (nI (A0 + gAll b g ev ms lt k fi))), (0, .ref (r 0)), (1, .int (bI lt))] → va_P (dC, dI) cls2 (mw r cI cZ (va_up b 7 (y)) g) H → va_D A (mw r cI cZ (va_up b 7 (y)) g) → va_S A s.heap H locs → W p l e ({ frames := 2, cells := 0, slots := 0, locals := 57 }) s m args below meth c H locs cells slots Q (F0 m 47 ls [])) → W p l e ({ frames := 2, cells := 0, slots := 0, locals := 57 }) s m args below meth c H locs cells slots Q (F0 m 7 ls []) := by
  intro k
  induction k using Nat.strongRecOn with
  | ind k ih =>
    intro fi A0 y H locs ls hk hfi hl hP hD hS kk
    refine lv_iload_n hx hb dM_all_7 rfl (lv_at hl 0 rfl) ?_
    refine lv_aload_n hx hb dM_all_8 rfl (lv_at hl 2 rfl) ?_
    refine va_get (D := (dC, dI)) (ci := 1) (v := .int (nI (ev))) (C := "EventPatternsModel") (T := TM) (N := 16) hx hb hbw inM hown hK hP 0 rfl rfl 1 (by decide) (hbw _ kf_M_45) (fun _ h9 => h9) (congrArg (fun z => some (Value.int z)) (hg1)) dM_all_9 ?_
    refine nr_icmp_ge (tgt := 47) hx hb (a1 := fi) (b1 := ev) (by omega) (by omega) dM_all_12 (by decide) (fun c_12 => ?_) (fun c_12 => ?_)
    · obtain rfl : k = 0 := by omega
      exact kk y H locs ls (lv_sub hl [1, 2, 3] rfl) hP hD hS
    · refine lv_aload_n hx hb dM_all_15 rfl (lv_at hl 2 rfl) ?_
      refine lv_iload_n hx hb dM_all_16 rfl (lv_at hl 0 rfl) ?_
      refine lv_iconst (v := 0) hx hb dM_all_17 (by decide) ?_
      refine lv_iconst (v := (-1)) hx hb dM_all_18 (by decide) ?_
      refine lv_iload_n hx hb dM_all_19 rfl (lv_at hl 0 rfl) ?_
      refine vp_callSi (W.runV (As := [.int (nI (fi)), .int (0), .int ((-1)), .int (nI (fi))]) (rest := []) ⟨hx, hb, hml, hown, hbw⟩ (tM_fits0 l dC dI r cI cZ cG (va_up b 7 (y)) (g) (fi) (0) (fi) (by omega) (by omega) (by omega)) (cwV 4 hbw (bw_V km_M_70 ki_yM_fits ksel_yM_fits ki_EventPatternsModel kcM_fits) rfl rfl rfl (by decide +kernel) ⟨Nat.le_of_ble_eq_true rfl, Nat.le_of_ble_eq_true rfl⟩) ⟨fun a U g mk q => by obtain ⟨q0, qP, qK⟩ := q; exact ⟨q0, qP, va_K.moved (u := U) (U := U.calling g mk a) (Vm.Alike.refl U.vm) qK⟩, va_recv hK hP (ci := 1) (q0 := 0) rfl rfl, fun U hU hW => ⟨rfl, by rw [hU]; exact hP, va_K.moved hW.alike hK⟩⟩ rfl rfl hl.1 rfl (lv_room (Nat.le_of_ble_eq_true rfl)) dM_all_20 ⟨hcs.1, hcs.2⟩) (fun r_20 hq => ?_)
      have hq : r_20 = bI (mFit0 b g (fi) (0) (fi)) := hq
      subst hq
      refine nr_ifb_eq (tgt := 39) hx hb (b := (mFit0 b g (fi) (0) (fi))) dM_all_23 (by decide) (fun c_23 => ?_) (fun c_23 => ?_)
      · refine lv_iload_n hx hb dM_all_39 rfl (lv_at hl 1 rfl) ?_
        refine lv_istore_n (lv' := [(2, .int (nI (A0))), (3, .int (nI (fi))), (0, .ref (r 0)), (1, .int (bI (lt)))]) hx hb dM_all_40 rfl hl (by decide) rfl (fun ls hl => ?_)
        refine lv_iinc (v := nI (fi + 1)) (lv' := [(3, .int (nI (fi + 1))), (2, .int (nI (A0))), (0, .ref (r 0)), (1, .int (bI (lt)))]) hx hb dM_all_41 hl (k := 1) rfl (nI_1 _) (by decide) rfl (fun ls hl => ?_)
        refine lv_goto (tgt := 7) hx hb dM_all_44 (by decide) ?_
        obtain ⟨k1, rfl⟩ : ∃ k1, k = k1 + 1 := ⟨k - 1, by omega⟩
        have eF : A0 = A0 + gF b g ev ms lt fi := by unfold gF; first | rw [if_pos c_23] | rw [if_neg (by rw [c_23]; decide), Nat.add_zero]
        rw [eF] at hl
        exact ih k1 (by omega) (fi + 1) _ _ _ _ ls (by omega) (by omega) (lv_sub hl [0, 1, 2, 3] rfl) hP hD hS (fun y H locs ls hl hP hD hS => kk y H locs ls (by rw [gAll, ← Nat.add_assoc]; exact hl) hP hD hS)
      · refine lv_iload_n hx hb dM_all_26 rfl (lv_at hl 1 rfl) ?_
        refine lv_aload_n hx hb dM_all_27 rfl (lv_at hl 2 rfl) ?_
        refine lv_iload_n hx hb dM_all_28 rfl (lv_at hl 0 rfl) ?_
        refine lv_iload_n hx hb dM_all_29 rfl (lv_at hl 0 rfl) ?_
        refine lv_iconst (v := 0) hx hb dM_all_30 (by decide) ?_
        refine lv_iload_n hx hb dM_all_31 rfl (lv_at hl 3 rfl) ?_
        have hFc := va_free (wc := mw r cI cZ (va_up b 7 (y)) (g)) hD hS hA (List.range 11) rfl
        refine va_calli (va_runV (As := [.int (nI (fi)), .int (nI (fi)), .int (0), .int (bI (lt))]) (rest := [.int (nI (A0))]) ⟨hx, hb, hml, hown, hbw⟩ (tM_waysFrom l dC dI r cI cZ cG (va_up b 7 (y)) (g) H.size ev ms (fi) (fi) (0) (lt) hev hg1 h0 hm hg4 (by omega) (by omega) (by omega) (by omega)) (cwV 4 hbw (bw_V km_M_74 ki_yM_waysFrom ksel_yM_waysFrom ki_EventPatternsModel kcM_waysFrom) rfl rfl rfl (by decide +kernel) ⟨Nat.le_of_ble_eq_true rfl, Nat.le_of_ble_eq_true rfl⟩) ⟨fun a U g mk q => by obtain ⟨q0, q1, qP, qK, qD⟩ := q; exact ⟨q0, q1, qP, va_K.moved (u := U) (U := U.calling g mk a) (Vm.Alike.refl U.vm) qK, qD⟩, va_recv hK hP (ci := 1) (q0 := 0) rfl rfl, fun U hU hW => ⟨rfl, by rw [hU], by rw [hU]; exact hP, va_K.moved hW.alike hK, hD.weaken (fun _ _ _ _ => trivial)⟩⟩ rfl rfl hl.1 rfl (lv_room (Nat.le_of_ble_eq_true rfl)) dM_all_32 ⟨hcs.1, hcs.2⟩) hS (fun q _ h => hFc q h) hFc (fun r_32 u t H1 locs ht hvm hq hB hz1 hk1 hS => ?_)
        obtain ⟨yz, y2, hyz, hq1, hq⟩ := hq
        rw [mWays hm (by omega) (by omega) (by omega) hyz, gW_c up7 rfl rfl] at hq1
        subst hq1
        obtain rfl := hq
        obtain ⟨hP1, hK1, hD1⟩ := hB
        rw [ht] at hP1
        have hP : va_P (dC, dI) cls2 (mw r cI cZ (va_up b 7 (y2)) (g)) H1 := hP1
        have hD : va_D A (mw r cI cZ (va_up b 7 (y2)) (g)) := hD1.weaken (fun _ _ _ h => hFc _ h)
        generalize H1 = H at hP hS ⊢
        refine nr_iadd hx hb (a1 := A0) (b1 := gW b g ev ms (fi) (lt) ((fi) - (ev - 16)) (0)) dM_all_35 ?_
        refine lv_goto (tgt := 40) hx hb dM_all_36 (by decide) ?_
        refine lv_istore_n (lv' := [(2, .int (nI (A0 + (gW b g ev ms (fi) (lt) ((fi) - (ev - 16)) (0))))), (3, .int (nI (fi))), (0, .ref (r 0)), (1, .int (bI (lt)))]) hx hb dM_all_40 rfl hl (by decide) rfl (fun ls hl => ?_)
        refine lv_iinc (v := nI (fi + 1)) (lv' := [(3, .int (nI (fi + 1))), (2, .int (nI (A0 + (gW b g ev ms (fi) (lt) ((fi) - (ev - 16)) (0))))), (0, .ref (r 0)), (1, .int (bI (lt)))]) hx hb dM_all_41 hl (k := 1) rfl (nI_1 _) (by decide) rfl (fun ls hl => ?_)
        refine lv_goto (tgt := 7) hx hb dM_all_44 (by decide) ?_
        obtain ⟨k1, rfl⟩ : ∃ k1, k = k1 + 1 := ⟨k - 1, by omega⟩
        have eF : A0 + (gW b g ev ms (fi) (lt) ((fi) - (ev - 16)) (0)) = A0 + gF b g ev ms lt fi := by unfold gF; first | rw [if_pos c_23] | rw [if_neg (by rw [c_23]; decide), Nat.add_zero]
        rw [eF] at hl
        exact ih k1 (by omega) (fi + 1) _ _ _ _ ls (by omega) (by omega) (lv_sub hl [0, 1, 2, 3] rfl) hP hD hS (fun y H locs ls hl hP hD hS => kk y H locs ls (by rw [gAll, ← Nat.add_assoc]; exact hl) hP hD hS)
set_option maxHeartbeats 4000000 in
set_option maxRecDepth 100000 in
/-- all(latest) -/
theorem tM_all (l : Launch) (dC : Nat → ClassId) (dI : Nat → Nat → Nat) (r : Nat → Nat) (cI cZ cG : ClassId) (b : Nat → Nat → Int32) (g : Nat → Int32) (sz : Nat) (ev ms : Nat) (lt : Bool) (hev : ev ≤ 400) (hg1 : g 1 = nI ev) (h0 : 1 ≤ ms) (hm : ms ≤ 5) (hg4 : g 4 = nI ms)  : Met l yM_all wM_all ({ frames := 2, cells := 0, slots := 0, locals := 57 }) (va_Pc [.ref (r 0), .int (bI (lt))] (fun U => U.heap.size = sz ∧ va_P (dC, dI) cls2 (mw r cI cZ b g) U.heap ∧ va_K (dC, dI) cls2 (xt cI cZ cG) U ∧ va_D (fun _ => True) (mw r cI cZ b g))) (va_Qi (fun (r0 : Int32) (u : MS) => r0 = nI (gAll b g ev ms lt (ev - (ev - 16)) (ev - 16)) ∧ ∃ y : Nat → Int32, u = (va_up b 7 y, g)) (atM dC dI r cI cZ cG (va_A (mw r cI cZ b g) sz)) (va_A (mw r cI cZ b g) sz)) 0 0 (va_A (mw r cI cZ b g) sz) := by
  refine Met.ofW (cc := cM_all) (maxL := 4) (ret := (some .int)) (by decide) rfl ?_
  intro p e s m args below meth c s₁ B hml hv
  obtain ⟨rfl, hsz, hP, hK, hD0⟩ := hv
  have hx := B.exec
  have hb := B.bytes
  have hr := B.returns
  have hbw : ∀ w ∈ bw, w.before _ s = true := fun w h => atoms_spec (ws := wM_all) B.pre w (List.mem_cons_of_mem _ h)
  have hown : s.vm.findClass "EventPatternsModel" = some m.cls := findClass_of_methodNamed B.named
  have hlocks := B.notSynchronized
  subst hsz
  have hD := hD0.self (sz := s.heap.size)
  generalize hAe : va_A (mw r cI cZ b g) s.heap.size = A at hD ⊢
  have hA : ∀ q : Nat, s.heap.size ≤ q → A q := fun q h => by rw [← hAe]; exact Or.inr h
  have hS : va_S A s.heap s.heap [] := va_S.rf
  have hl := lv_entry ([.ref (r 0), .int (bI (lt))]) (n := 4) (Nat.le_of_ble_eq_true rfl)
  rw [lg_entry_eq]
  generalize (lg_sl ([.ref (r 0), .int (bI (lt))]) ++ List.replicate (4 - (lg_sl ([.ref (r 0), .int (bI (lt))])).length) Slot.unset).toArray = ls at hl ⊢
  have hl : lv_has ls 4 [(0, .ref (r 0)), (1, .int (bI (lt)))] := hl
  refine lv_iconst (v := 0) hx hb dM_all_0 (by decide) ?_
  refine lv_istore_n (lv' := [(2, .int (0)), (0, .ref (r 0)), (1, .int (bI (lt)))]) hx hb dM_all_1 rfl hl (by decide) rfl (fun ls hl => ?_)
  refine lv_aload_n hx hb dM_all_2 rfl (lv_at hl 1 rfl) ?_
  refine vp_callSi (W.runV (As := []) (rest := []) ⟨hx, hb, hml, hown, hbw⟩ (tM_from l dC dI r cI cZ cG b g ev hev hg1) (cwV 0 hbw (bw_V km_M_66 ki_yM_from ksel_yM_from ki_EventPatternsModel kcM_from) rfl rfl rfl (by decide +kernel) ⟨Nat.le_of_ble_eq_true rfl, Nat.le_of_ble_eq_true rfl⟩) ⟨fun a U g mk q => by obtain ⟨q0, qP, qK⟩ := q; exact ⟨q0, qP, va_K.moved (u := U) (U := U.calling g mk a) (Vm.Alike.refl U.vm) qK⟩, va_recv hK hP (ci := 1) (q0 := 0) rfl rfl, fun U hU hW => ⟨rfl, by rw [hU]; exact hP, va_K.moved hW.alike hK⟩⟩ rfl rfl hl.1 rfl (lv_room (Nat.le_of_ble_eq_true rfl)) dM_all_3 ⟨Nat.le_of_ble_eq_true rfl, Nat.le_of_ble_eq_true rfl⟩) (fun r_3 hq => ?_)
  subst hq
  refine lv_istore_n (lv' := [(3, .int (nI (ev - 16))), (2, .int (0)), (0, .ref (r 0)), (1, .int (bI (lt)))]) hx hb dM_all_6 rfl hl (by decide) rfl (fun ls hl => ?_)
  have hP : va_P (dC, dI) cls2 (mw r cI cZ (va_up b 7 (b 7)) g) s.heap := hP
  have hD : va_D A (mw r cI cZ (va_up b 7 (b 7)) g) := hD
  refine lM_all l dC dI r cI cZ cG b g ev ms lt hev hg1 h0 hm hg4 ⟨Nat.le_refl _, Nat.le_refl _⟩ hx hb hml hown hbw hK hA (ev - (ev - 16)) (ev - 16) 0 (b 7) s.heap [] ls (by omega) (by omega) (lv_sub hl [0, 1, 2, 3] rfl) hP hD hS (fun y H locs ls hl hP hD hS => ?_)
  refine lv_iload_n hx hb dM_all_47 rfl (lv_at hl 0 rfl) ?_
  exact W.iret (v := nI (0 + gAll b g ev ms lt (ev - (ev - 16)) (ev - 16))) hx hb hr (fun t ht hW => ⟨⟨nI (0 + gAll b g ev ms lt (ev - (ev - 16)) (ev - 16)), (va_up b 7 y, g), rfl, ⟨by rw [Nat.zero_add], y, rfl⟩, by rw [ht]; exact hP, va_K.moved hW.alike hK, hD⟩, hS.F ht⟩) hS.2.2 dM_all_48
set_option maxHeartbeats 4000000 in
set_option maxRecDepth 100000 in
/-- count() -/
theorem tM_count (l : Launch) (dC : Nat → ClassId) (dI : Nat → Nat → Nat) (r : Nat → Nat) (cI cZ cG : ClassId) (b : Nat → Nat → Int32) (g : Nat → Int32) (sz : Nat) (ev ms : Nat) (hev : ev ≤ 400) (hg1 : g 1 = nI ev) (hm : ms ≤ 5) (hg4 : g 4 = nI ms)  : Met l yM_count wM_count ({ frames := 3, cells := 0, slots := 0, locals := 80 }) (va_Pc [.ref (r 0)] (fun U => U.heap.size = sz ∧ va_P (dC, dI) cls2 (mw r cI cZ b g) U.heap ∧ va_K (dC, dI) cls2 (xt cI cZ cG) U ∧ va_D (fun _ => True) (mw r cI cZ b g))) (va_Qi (fun (r0 : Int32) (u : MS) => (ms = 0 → u = (b, va_up g 0 (nI 1))) ∧ (1 ≤ ms → r0 = nI (gAll b g ev ms false (ev - (ev - 16)) (ev - 16)) ∧ ∃ y : Nat → Int32, u = (va_up b 7 y, va_up g 0 (nI 0)))) (atM dC dI r cI cZ cG (va_A (mw r cI cZ b g) sz)) (va_A (mw r cI cZ b g) sz)) 0 0 (va_A (mw r cI cZ b g) sz) := by
  refine Met.ofW (cc := cM_count) (maxL := 1) (ret := (some .int)) (by decide) rfl ?_
  intro p e s m args below meth c s₁ B hml hv
  obtain ⟨rfl, hsz, hP, hK, hD0⟩ := hv
  have hx := B.exec
  have hb := B.bytes
  have hr := B.returns
  have hbw : ∀ w ∈ bw, w.before _ s = true := fun w h => atoms_spec (ws := wM_count) B.pre w (List.mem_cons_of_mem _ h)
  have hown : s.vm.findClass "EventPatternsModel" = some m.cls := findClass_of_methodNamed B.named
  have hlocks := B.notSynchronized
  subst hsz
  have hD := hD0.self (sz := s.heap.size)
  generalize hAe : va_A (mw r cI cZ b g) s.heap.size = A at hD ⊢
  have hA : ∀ q : Nat, s.heap.size ≤ q → A q := fun q h => by rw [← hAe]; exact Or.inr h
  have hS : va_S A s.heap s.heap [] := va_S.rf
  have hl := lv_entry ([.ref (r 0)]) (n := 1) (Nat.le_of_ble_eq_true rfl)
  rw [lg_entry_eq]
  generalize (lg_sl ([.ref (r 0)]) ++ List.replicate (1 - (lg_sl ([.ref (r 0)])).length) Slot.unset).toArray = ls at hl ⊢
  have hl : lv_has ls 1 [(0, .ref (r 0))] := hl
  refine lv_aload_n hx hb dM_count_0 rfl (lv_at hl 0 rfl) ?_
  refine lv_aload_n hx hb dM_count_1 rfl (lv_at hl 0 rfl) ?_
  refine va_get (D := (dC, dI)) (ci := 1) (v := .int (nI (ms))) (C := "EventPatternsModel") (T := TM) (N := 16) hx hb hbw inM hown hK hP 0 rfl rfl 7 (by decide) (hbw _ kf_M_63) (fun _ h9 => h9) (congrArg (fun z => some (Value.int z)) (hg4)) dM_count_2 ?_
  refine nr_if_ne (tgt := 12) hx hb (a1 := ms) (by omega) dM_count_5 (by decide) (fun c_5 => ?_) (fun c_5 => ?_)
  · refine lv_iconst (v := 0) hx hb dM_count_12 (by decide) ?_
    refine lv_iconst (v := 0) hx hb dM_count_13 (by decide) ?_
    refine lv_iconst (v := 0) hx hb dM_count_14 (by decide) ?_
    have hFc := va_free (wc := mw r cI cZ (b) (g)) hD hS hA (List.range 11) rfl
    refine va_calli (va_runV (As := [.int (0), .int (0), .int (0)]) (rest := []) ⟨hx, hb, hml, hown, hbw⟩ (tM_refuse l dC dI r cI cZ cG (b) (g) s.heap.size false false false) (cwV 3 hbw (bw_V km_M_53 ki_yM_refuse ksel_yM_refuse ki_EventPatternsModel kcM_refuse) rfl rfl rfl (by decide +kernel) ⟨Nat.le_of_ble_eq_true rfl, Nat.le_of_ble_eq_true rfl⟩) ⟨fun a U g mk q => by obtain ⟨q0, q1, qP, qK, qD⟩ := q; exact ⟨q0, q1, qP, va_K.moved (u := U) (U := U.calling g mk a) (Vm.Alike.refl U.vm) qK, qD⟩, va_recv hK hP (ci := 1) (q0 := 0) rfl rfl, fun U hU hW => ⟨rfl, by rw [hU], by rw [hU]; exact hP, va_K.moved hW.alike hK, hD.weaken (fun _ _ _ _ => trivial)⟩⟩ rfl rfl hl.1 rfl (lv_room (Nat.le_of_ble_eq_true rfl)) dM_count_15 ⟨Nat.le_of_ble_eq_true rfl, Nat.le_of_ble_eq_true rfl⟩) hS (fun q _ h => hFc q h) hFc (fun r_15 u t H1 locs ht hvm hq hB hz1 hk1 hS => ?_)
    obtain ⟨hq1, hq⟩ := hq
    have hq1 : r_15 = 0 := hq1
    subst hq1
    obtain rfl := hq
    obtain ⟨hP1, hK1, hD1⟩ := hB
    rw [ht] at hP1
    have hP : va_P (dC, dI) cls2 (mw r cI cZ (b) (va_up (g) 0 (nI (mTh false false false)))) H1 := hP1
    have hD : va_D A (mw r cI cZ (b) (va_up (g) 0 (nI (mTh false false false)))) := hD1.weaken (fun _ _ _ h => hFc _ h)
    generalize H1 = H at hP hS ⊢
    refine lv_if_eq (tgt := 25) hx hb dM_count_18 (by decide) (fun _ => ?_) (fun c9 => absurd c9 (by decide))
    refine lv_aload_n hx hb dM_count_25 rfl (lv_at hl 0 rfl) ?_
    refine lv_iconst (v := 0) hx hb dM_count_26 (by decide) ?_
    have hFc := va_free (wc := mw r cI cZ (b) (va_up (g) 0 (nI (mTh false false false)))) hD hS hA (List.range 11) rfl
    refine va_calli (va_runV (As := [.int (0)]) (rest := []) ⟨hx, hb, hml, hown, hbw⟩ (tM_all l dC dI r cI cZ cG (b) (va_up (g) 0 (nI (mTh false false false))) H.size ev ms false hev hg1 (by omega) hm hg4) (cwV 1 hbw (bw_V km_M_78 ki_yM_all ksel_yM_all ki_EventPatternsModel kcM_all) rfl rfl rfl (by decide +kernel) ⟨Nat.le_of_ble_eq_true rfl, Nat.le_of_ble_eq_true rfl⟩) ⟨fun a U g mk q => by obtain ⟨q0, q1, qP, qK, qD⟩ := q; exact ⟨q0, q1, qP, va_K.moved (u := U) (U := U.calling g mk a) (Vm.Alike.refl U.vm) qK, qD⟩, va_recv hK hP (ci := 1) (q0 := 0) rfl rfl, fun U hU hW => ⟨rfl, by rw [hU], by rw [hU]; exact hP, va_K.moved hW.alike hK, hD.weaken (fun _ _ _ _ => trivial)⟩⟩ rfl rfl hl.1 rfl (lv_room (Nat.le_of_ble_eq_true rfl)) dM_count_27 ⟨Nat.le_of_ble_eq_true rfl, Nat.le_of_ble_eq_true rfl⟩) hS (fun q _ h => hFc q h) hFc (fun r_27 u t H1 locs ht hvm hq hB hz1 hk1 hS => ?_)
    obtain ⟨hq1, y, hq⟩ := hq
    rw [gAll_c (b := b) (b2 := b) (g := g) (g2 := va_up (g) 0 (nI (mTh false false false))) (fun _ _ => rfl) rfl rfl] at hq1
    subst hq1
    obtain rfl := hq
    obtain ⟨hP1, hK1, hD1⟩ := hB
    rw [ht] at hP1
    have hP : va_P (dC, dI) cls2 (mw r cI cZ (va_up b 7 y) (va_up (g) 0 (nI (mTh false false false)))) H1 := hP1
    have hD : va_D A (mw r cI cZ (va_up b 7 y) (va_up (g) 0 (nI (mTh false false false)))) := hD1.weaken (fun _ _ _ h => hFc _ h)
    generalize H1 = H at hP hS ⊢
    exact W.iret (v := nI (gAll b g ev ms false (ev - (ev - 16)) (ev - 16))) hx hb hr (fun t ht hW => ⟨⟨nI (gAll b g ev ms false (ev - (ev - 16)) (ev - 16)), (va_up b 7 y, va_up g 0 (nI 0)), rfl, ⟨fun h9 => absurd h9 (by omega), fun _ => ⟨rfl, y, rfl⟩⟩, by rw [ht]; exact hP, va_K.moved hW.alike hK, hD⟩, hS.F ht⟩) hS.2.2 dM_count_30
  · refine lv_iconst (v := 1) hx hb dM_count_8 (by decide) ?_
    refine lv_goto (tgt := 13) hx hb dM_count_9 (by decide) ?_
    refine lv_iconst (v := 0) hx hb dM_count_13 (by decide) ?_
    refine lv_iconst (v := 0) hx hb dM_count_14 (by decide) ?_
    have hFc := va_free (wc := mw r cI cZ (b) (g)) hD hS hA (List.range 11) rfl
    refine va_calli (va_runV (As := [.int (1), .int (0), .int (0)]) (rest := []) ⟨hx, hb, hml, hown, hbw⟩ (tM_refuse l dC dI r cI cZ cG (b) (g) s.heap.size true false false) (cwV 3 hbw (bw_V km_M_53 ki_yM_refuse ksel_yM_refuse ki_EventPatternsModel kcM_refuse) rfl rfl rfl (by decide +kernel) ⟨Nat.le_of_ble_eq_true rfl, Nat.le_of_ble_eq_true rfl⟩) ⟨fun a U g mk q => by obtain ⟨q0, q1, qP, qK, qD⟩ := q; exact ⟨q0, q1, qP, va_K.moved (u := U) (U := U.calling g mk a) (Vm.Alike.refl U.vm) qK, qD⟩, va_recv hK hP (ci := 1) (q0 := 0) rfl rfl, fun U hU hW => ⟨rfl, by rw [hU], by rw [hU]; exact hP, va_K.moved hW.alike hK, hD.weaken (fun _ _ _ _ => trivial)⟩⟩ rfl rfl hl.1 rfl (lv_room (Nat.le_of_ble_eq_true rfl)) dM_count_15 ⟨Nat.le_of_ble_eq_true rfl, Nat.le_of_ble_eq_true rfl⟩) hS (fun q _ h => hFc q h) hFc (fun r_15 u t H1 locs ht hvm hq hB hz1 hk1 hS => ?_)
    obtain ⟨hq1, hq⟩ := hq
    have hq1 : r_15 = 1 := hq1
    subst hq1
    obtain rfl := hq
    obtain ⟨hP1, hK1, hD1⟩ := hB
    rw [ht] at hP1
    have hP : va_P (dC, dI) cls2 (mw r cI cZ (b) (va_up (g) 0 (nI (mTh true false false)))) H1 := hP1
    have hD : va_D A (mw r cI cZ (b) (va_up (g) 0 (nI (mTh true false false)))) := hD1.weaken (fun _ _ _ h => hFc _ h)
    generalize H1 = H at hP hS ⊢
    refine lv_if_eq (tgt := 25) hx hb dM_count_18 (by decide) (fun c9 => absurd c9 (by decide)) (fun _ => ?_)
    refine lv_iconst (v := 0) hx hb dM_count_21 (by decide) ?_
    refine lv_goto (tgt := 30) hx hb dM_count_22 (by decide) ?_
    exact W.iret (v := 0) hx hb hr (fun t ht hW => ⟨⟨0, (b, va_up g 0 (nI 1)), rfl, ⟨fun _ => rfl, fun h9 => absurd h9 (by omega)⟩, by rw [ht]; exact hP, va_K.moved hW.alike hK, hD⟩, hS.F ht⟩) hS.2.2 dM_count_30
set_option maxHeartbeats 4000000 in
set_option maxRecDepth 100000 in
/-- latest() -/
theorem tM_latest (l : Launch) (dC : Nat → ClassId) (dI : Nat → Nat → Nat) (r : Nat → Nat) (cI cZ cG : ClassId) (b : Nat → Nat → Int32) (g : Nat → Int32) (sz : Nat) (ev ms : Nat) (hev : ev ≤ 400) (hg1 : g 1 = nI ev) (hm : ms ≤ 5) (hg4 : g 4 = nI ms)  : Met l yM_latest wM_latest ({ frames := 3, cells := 0, slots := 0, locals := 80 }) (va_Pc [.ref (r 0)] (fun U => U.heap.size = sz ∧ va_P (dC, dI) cls2 (mw r cI cZ b g) U.heap ∧ va_K (dC, dI) cls2 (xt cI cZ cG) U ∧ va_D (fun _ => True) (mw r cI cZ b g))) (va_Qi (fun (r0 : Int32) (u : MS) => (ms = 0 → u = (b, va_up g 0 (nI 1))) ∧ (1 ≤ ms → r0 = nI (gAll b g ev ms true (ev - (ev - 16)) (ev - 16)) ∧ ∃ y : Nat → Int32, u = (va_up b 7 y, va_up g 0 (nI 0)))) (atM dC dI r cI cZ cG (va_A (mw r cI cZ b g) sz)) (va_A (mw r cI cZ b g) sz)) 0 0 (va_A (mw r cI cZ b g) sz) := by
  refine Met.ofW (cc := cM_latest) (maxL := 1) (ret := (some .int)) (by decide) rfl ?_
  intro p e s m args below meth c s₁ B hml hv
  obtain ⟨rfl, hsz, hP, hK, hD0⟩ := hv
  have hx := B.exec
  have hb := B.bytes
  have hr := B.returns
  have hbw : ∀ w ∈ bw, w.before _ s = true := fun w h => atoms_spec (ws := wM_latest) B.pre w (List.mem_cons_of_mem _ h)
  have hown : s.vm.findClass "EventPatternsModel" = some m.cls := findClass_of_methodNamed B.named
  have hlocks := B.notSynchronized
  subst hsz
  have hD := hD0.self (sz := s.heap.size)
  generalize hAe : va_A (mw r cI cZ b g) s.heap.size = A at hD ⊢
  have hA : ∀ q : Nat, s.heap.size ≤ q → A q := fun q h => by rw [← hAe]; exact Or.inr h
  have hS : va_S A s.heap s.heap [] := va_S.rf
  have hl := lv_entry ([.ref (r 0)]) (n := 1) (Nat.le_of_ble_eq_true rfl)
  rw [lg_entry_eq]
  generalize (lg_sl ([.ref (r 0)]) ++ List.replicate (1 - (lg_sl ([.ref (r 0)])).length) Slot.unset).toArray = ls at hl ⊢
  have hl : lv_has ls 1 [(0, .ref (r 0))] := hl
  refine lv_aload_n hx hb dM_latest_0 rfl (lv_at hl 0 rfl) ?_
  refine lv_aload_n hx hb dM_latest_1 rfl (lv_at hl 0 rfl) ?_
  refine va_get (D := (dC, dI)) (ci := 1) (v := .int (nI (ms))) (C := "EventPatternsModel") (T := TM) (N := 16) hx hb hbw inM hown hK hP 0 rfl rfl 7 (by decide) (hbw _ kf_M_63) (fun _ h9 => h9) (congrArg (fun z => some (Value.int z)) (hg4)) dM_latest_2 ?_
  refine nr_if_ne (tgt := 12) hx hb (a1 := ms) (by omega) dM_latest_5 (by decide) (fun c_5 => ?_) (fun c_5 => ?_)
  · refine lv_iconst (v := 0) hx hb dM_latest_12 (by decide) ?_
    refine lv_iconst (v := 0) hx hb dM_latest_13 (by decide) ?_
    refine lv_iconst (v := 0) hx hb dM_latest_14 (by decide) ?_
    have hFc := va_free (wc := mw r cI cZ (b) (g)) hD hS hA (List.range 11) rfl
    refine va_calli (va_runV (As := [.int (0), .int (0), .int (0)]) (rest := []) ⟨hx, hb, hml, hown, hbw⟩ (tM_refuse l dC dI r cI cZ cG (b) (g) s.heap.size false false false) (cwV 3 hbw (bw_V km_M_53 ki_yM_refuse ksel_yM_refuse ki_EventPatternsModel kcM_refuse) rfl rfl rfl (by decide +kernel) ⟨Nat.le_of_ble_eq_true rfl, Nat.le_of_ble_eq_true rfl⟩) ⟨fun a U g mk q => by obtain ⟨q0, q1, qP, qK, qD⟩ := q; exact ⟨q0, q1, qP, va_K.moved (u := U) (U := U.calling g mk a) (Vm.Alike.refl U.vm) qK, qD⟩, va_recv hK hP (ci := 1) (q0 := 0) rfl rfl, fun U hU hW => ⟨rfl, by rw [hU], by rw [hU]; exact hP, va_K.moved hW.alike hK, hD.weaken (fun _ _ _ _ => trivial)⟩⟩ rfl rfl hl.1 rfl (lv_room (Nat.le_of_ble_eq_true rfl)) dM_latest_15 ⟨Nat.le_of_ble_eq_true rfl, Nat.le_of_ble_eq_true rfl⟩) hS (fun q _ h => hFc q h) hFc (fun r_15 u t H1 locs ht hvm hq hB hz1 hk1 hS => ?_)
    obtain ⟨hq1, hq⟩ := hq
    have hq1 : r_15 = 0 := hq1
    subst hq1
    obtain rfl := hq
    obtain ⟨hP1, hK1, hD1⟩ := hB
    rw [ht] at hP1
    have hP : va_P (dC, dI) cls2 (mw r cI cZ (b) (va_up (g) 0 (nI (mTh false false false)))) H1 := hP1
    have hD : va_D A (mw r cI cZ (b) (va_up (g) 0 (nI (mTh false false false)))) := hD1.weaken (fun _ _ _ h => hFc _ h)
    generalize H1 = H at hP hS ⊢
    refine lv_if_eq (tgt := 25) hx hb dM_latest_18 (by decide) (fun _ => ?_) (fun c9 => absurd c9 (by decide))
    refine lv_aload_n hx hb dM_latest_25 rfl (lv_at hl 0 rfl) ?_
    refine lv_iconst (v := 1) hx hb dM_latest_26 (by decide) ?_
    have hFc := va_free (wc := mw r cI cZ (b) (va_up (g) 0 (nI (mTh false false false)))) hD hS hA (List.range 11) rfl
    refine va_calli (va_runV (As := [.int (1)]) (rest := []) ⟨hx, hb, hml, hown, hbw⟩ (tM_all l dC dI r cI cZ cG (b) (va_up (g) 0 (nI (mTh false false false))) H.size ev ms true hev hg1 (by omega) hm hg4) (cwV 1 hbw (bw_V km_M_78 ki_yM_all ksel_yM_all ki_EventPatternsModel kcM_all) rfl rfl rfl (by decide +kernel) ⟨Nat.le_of_ble_eq_true rfl, Nat.le_of_ble_eq_true rfl⟩) ⟨fun a U g mk q => by obtain ⟨q0, q1, qP, qK, qD⟩ := q; exact ⟨q0, q1, qP, va_K.moved (u := U) (U := U.calling g mk a) (Vm.Alike.refl U.vm) qK, qD⟩, va_recv hK hP (ci := 1) (q0 := 0) rfl rfl, fun U hU hW => ⟨rfl, by rw [hU], by rw [hU]; exact hP, va_K.moved hW.alike hK, hD.weaken (fun _ _ _ _ => trivial)⟩⟩ rfl rfl hl.1 rfl (lv_room (Nat.le_of_ble_eq_true rfl)) dM_latest_27 ⟨Nat.le_of_ble_eq_true rfl, Nat.le_of_ble_eq_true rfl⟩) hS (fun q _ h => hFc q h) hFc (fun r_27 u t H1 locs ht hvm hq hB hz1 hk1 hS => ?_)
    obtain ⟨hq1, y, hq⟩ := hq
    rw [gAll_c (b := b) (b2 := b) (g := g) (g2 := va_up (g) 0 (nI (mTh false false false))) (fun _ _ => rfl) rfl rfl] at hq1
    subst hq1
    obtain rfl := hq
    obtain ⟨hP1, hK1, hD1⟩ := hB
    rw [ht] at hP1
    have hP : va_P (dC, dI) cls2 (mw r cI cZ (va_up b 7 y) (va_up (g) 0 (nI (mTh false false false)))) H1 := hP1
    have hD : va_D A (mw r cI cZ (va_up b 7 y) (va_up (g) 0 (nI (mTh false false false)))) := hD1.weaken (fun _ _ _ h => hFc _ h)
    generalize H1 = H at hP hS ⊢
    exact W.iret (v := nI (gAll b g ev ms true (ev - (ev - 16)) (ev - 16))) hx hb hr (fun t ht hW => ⟨⟨nI (gAll b g ev ms true (ev - (ev - 16)) (ev - 16)), (va_up b 7 y, va_up g 0 (nI 0)), rfl, ⟨fun h9 => absurd h9 (by omega), fun _ => ⟨rfl, y, rfl⟩⟩, by rw [ht]; exact hP, va_K.moved hW.alike hK, hD⟩, hS.F ht⟩) hS.2.2 dM_latest_30
  · refine lv_iconst (v := 1) hx hb dM_latest_8 (by decide) ?_
    refine lv_goto (tgt := 13) hx hb dM_latest_9 (by decide) ?_
    refine lv_iconst (v := 0) hx hb dM_latest_13 (by decide) ?_
    refine lv_iconst (v := 0) hx hb dM_latest_14 (by decide) ?_
    have hFc := va_free (wc := mw r cI cZ (b) (g)) hD hS hA (List.range 11) rfl
    refine va_calli (va_runV (As := [.int (1), .int (0), .int (0)]) (rest := []) ⟨hx, hb, hml, hown, hbw⟩ (tM_refuse l dC dI r cI cZ cG (b) (g) s.heap.size true false false) (cwV 3 hbw (bw_V km_M_53 ki_yM_refuse ksel_yM_refuse ki_EventPatternsModel kcM_refuse) rfl rfl rfl (by decide +kernel) ⟨Nat.le_of_ble_eq_true rfl, Nat.le_of_ble_eq_true rfl⟩) ⟨fun a U g mk q => by obtain ⟨q0, q1, qP, qK, qD⟩ := q; exact ⟨q0, q1, qP, va_K.moved (u := U) (U := U.calling g mk a) (Vm.Alike.refl U.vm) qK, qD⟩, va_recv hK hP (ci := 1) (q0 := 0) rfl rfl, fun U hU hW => ⟨rfl, by rw [hU], by rw [hU]; exact hP, va_K.moved hW.alike hK, hD.weaken (fun _ _ _ _ => trivial)⟩⟩ rfl rfl hl.1 rfl (lv_room (Nat.le_of_ble_eq_true rfl)) dM_latest_15 ⟨Nat.le_of_ble_eq_true rfl, Nat.le_of_ble_eq_true rfl⟩) hS (fun q _ h => hFc q h) hFc (fun r_15 u t H1 locs ht hvm hq hB hz1 hk1 hS => ?_)
    obtain ⟨hq1, hq⟩ := hq
    have hq1 : r_15 = 1 := hq1
    subst hq1
    obtain rfl := hq
    obtain ⟨hP1, hK1, hD1⟩ := hB
    rw [ht] at hP1
    have hP : va_P (dC, dI) cls2 (mw r cI cZ (b) (va_up (g) 0 (nI (mTh true false false)))) H1 := hP1
    have hD : va_D A (mw r cI cZ (b) (va_up (g) 0 (nI (mTh true false false)))) := hD1.weaken (fun _ _ _ h => hFc _ h)
    generalize H1 = H at hP hS ⊢
    refine lv_if_eq (tgt := 25) hx hb dM_latest_18 (by decide) (fun c9 => absurd c9 (by decide)) (fun _ => ?_)
    refine lv_iconst (v := 0) hx hb dM_latest_21 (by decide) ?_
    refine lv_goto (tgt := 30) hx hb dM_latest_22 (by decide) ?_
    exact W.iret (v := 0) hx hb hr (fun t ht hW => ⟨⟨0, (b, va_up g 0 (nI 1)), rfl, ⟨fun _ => rfl, fun h9 => absurd h9 (by omega)⟩, by rw [ht]; exact hP, va_K.moved hW.alike hK, hD⟩, hS.F ht⟩) hS.2.2 dM_latest_30
