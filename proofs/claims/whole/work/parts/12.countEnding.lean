/-! THE CLASS: countEnding, addFound -/
def xCntL (a : Nat → Nat → Int32) (f : Nat → Int32) (n ms : Nat) (lo : Int32) : Nat → Nat → Int32 → (Nat → Nat → Int32) → Int32 × (Nat → Nat → Int32)
  | 0, _, acc, w => (acc, w)
  | k + 1, fi, acc, w => if fi < n then xCntL a f n ms lo k (fi + 1) (acc + xFromR a f n ms fi lo w) (xFromW a f n ms fi lo w) else (acc, w)
theorem xCntL_out {a : Nat → Nat → Int32} {f : Nat → Int32} {n ms k fi : Nat} {lo acc : Int32} {w : Nat → Nat → Int32} (h : n ≤ fi) : xCntL a f n ms lo (k + 1) fi acc w = (acc, w) := by
  rw [xCntL, if_neg (by omega)]
theorem xCntL_in {a : Nat → Nat → Int32} {f : Nat → Int32} {n ms k fi : Nat} {lo acc : Int32} {w : Nat → Nat → Int32} (hk : 1 ≤ k) (h : fi < n) : xCntL a f n ms lo (k + 1) fi acc w = xCntL a f n ms lo (k - 1 + 1) (fi + 1) (acc + xFromR a f n ms fi lo w) (xFromW a f n ms fi lo w) := by
  rw [xCntL, if_pos h, show k - 1 + 1 = k by omega]
set_option maxHeartbeats 4000000 in
set_option maxRecDepth 100000 in
theorem lX_countEnding (l : Launch) (dC : Nat → ClassId) (dI : Nat → Nat → Nat) (q : Nat → Nat) (cI cZ cG : ClassId) (a : Nat → Nat → Int32) (f : Nat → Int32) {p : Program} {e : Env} {s : State} {m : MethodId} {args : Array Value} {below : List Frame} {meth : Method} {c : Code} {Q : State → Prop} {A : Nat → Prop} (n ms : Nat) (lo : Int32) (hn : n ≤ 16) (hf1 : f 1 = nI n) (h0 : 1 ≤ ms) (hm : ms ≤ 5) (hf4 : f 4 = nI ms) {cells slots : Nat} (hcs : cells ≤ 0 ∧ slots ≤ 0) (hx : p.tables.exec = Jvm.exec) (hb : c.code = cX_countEnding) (hml : c.maxLocals = 4) (hown : s.vm.findClass "EventPatterns" = some m.cls) (hbw : ∀ w ∈ bw, w.before args s = true) (hK : va_K (dC, dI) cls2 (xt cI cZ cG) s) (hA : ∀ q : Nat, s.heap.size ≤ q → A q) :
    ∀ (k fi : Nat) (acc : Int32) (w : Nat → Nat → Int32) (H : Heap) (locs : List Loc) (ls : Array Slot), n ≤ fi + k → fi ≤ 16 → lv_has ls 4 [(3, .int (nI fi)), (2, .int acc), (0, .ref (q 0)), (1, .int lo)] → va_P (dC, dI) cls2 (xw q cI cZ cG (a) (f) (w)) H → va_D A (xw q cI cZ cG (a) (f) (w)) → va_S A s.heap H locs →
      (∀ (H : Heap) (locs : List Loc) (ls : Array Slot), lv_has ls 4 [(2, .int (xCntL a f n ms lo (k + 1) fi acc w).1), (0, .ref (q 0)), (1, .int lo)] → va_P (dC, dI) cls2 (xw q cI cZ cG (a) (f) ((xCntL a f n ms lo (k + 1) fi acc w).2)) H → va_D A (xw q cI cZ cG (a) (f) ((xCntL a f n ms lo (k + 1) fi acc w).2)) → va_S A s.heap H locs → W p l e ({ frames := 4, cells := 0, slots := 0, locals := 99 }) s m args below meth c H locs cells slots Q (F0 m 27 ls [])) → W p l e ({ frames := 4, cells := 0, slots := 0, locals := 99 }) s m args below meth c H locs cells slots Q (F0 m 4 ls []) := by
  intro k
  induction k using Nat.strongRecOn with
  | ind k ih =>
    intro fi acc w H locs ls hk hfi hl hP hD hS kk
    refine lv_iload_n hx hb dX_countEnding_4 rfl (lv_at hl 0 rfl) ?_
    refine lv_aload_n hx hb dX_countEnding_5 rfl (lv_at hl 2 rfl) ?_
    refine va_get (D := (dC, dI)) (ci := 0) (v := .int (nI (n))) (C := "EventPatterns") (T := TX) (N := 16) hx hb hbw inX hown hK hP 0 rfl rfl 4 (by decide) (hbw _ kf_X_47) (fun _ h9 => h9) (congrArg (fun z => some (Value.int z)) (hf1)) dX_countEnding_6 ?_
    refine nr_icmp_ge (tgt := 27) hx hb (a1 := fi) (b1 := n) (by omega) (by omega) dX_countEnding_9 (by decide) (fun c_9 => ?_) (fun c_9 => ?_)
    · exact kk H locs ls (by rw [xCntL_out c_9]; exact (lv_sub hl [1, 2, 3] rfl)) (by rw [xCntL_out c_9]; exact hP) (by rw [xCntL_out c_9]; exact hD) hS
    · refine lv_iload_n hx hb dX_countEnding_12 rfl (lv_at hl 1 rfl) ?_
      refine lv_aload_n hx hb dX_countEnding_13 rfl (lv_at hl 2 rfl) ?_
      refine lv_iload_n hx hb dX_countEnding_14 rfl (lv_at hl 0 rfl) ?_
      refine lv_iload_n hx hb dX_countEnding_15 rfl (lv_at hl 3 rfl) ?_
      have hFc := va_free (wc := xw q cI cZ cG (a) (f) (w)) hD hS hA (List.range 27) rfl
      refine va_calli (va_runV (As := [.int (nI (fi)), .int (lo)]) (rest := [.int (acc)]) ⟨hx, hb, hml, hown, hbw⟩ (tX_waysFrom l dC dI q cI cZ cG a f (w) H.size n ms (fi) (lo) hn hf1 h0 hm hf4 (by omega)) (cwV 2 hbw (bw_V km_X_123 ki_yX_waysFrom ksel_yX_waysFrom ki_EventPatterns kcX_waysFrom) rfl rfl rfl (by decide +kernel) ⟨Nat.le_of_ble_eq_true rfl, Nat.le_of_ble_eq_true rfl⟩) ⟨fun a U g mk q => by obtain ⟨q0, q1, qP, qK, qD⟩ := q; exact ⟨q0, q1, qP, va_K.moved (u := U) (U := U.calling g mk a) (Vm.Alike.refl U.vm) qK, qD⟩, va_recv hK hP (ci := 0) (q0 := 0) rfl rfl, fun U hU hW => ⟨rfl, by rw [hU], by rw [hU]; exact hP, va_K.moved hW.alike hK, hD.weaken (fun _ _ _ _ => trivial)⟩⟩ rfl rfl hl.1 rfl (lv_room (Nat.le_of_ble_eq_true rfl)) dX_countEnding_16 ⟨hcs.1, hcs.2⟩) hS (fun q _ h => hFc q h) hFc (fun r_16 u t H1 locs ht hvm hq hB hz1 hk1 hS => ?_)
      obtain ⟨rfl, rfl⟩ := hq
      obtain ⟨hP1, hK1, hD1⟩ := hB
      rw [ht] at hP1
      have hP : va_P (dC, dI) cls2 (xw q cI cZ cG (a) (f) (xFromW a f n ms (fi) (lo) (w))) H1 := hP1
      have hD : va_D A (xw q cI cZ cG (a) (f) (xFromW a f n ms (fi) (lo) (w))) := hD1.weaken (fun _ _ _ h => hFc _ h)
      generalize H1 = H at hP hS ⊢
      refine lv_iadd hx hb dX_countEnding_19 ?_
      refine lv_istore_n (lv' := [(2, .int ((acc) + (xFromR a f n ms (fi) (lo) (w)))), (3, .int (nI (fi))), (0, .ref (q 0)), (1, .int (lo))]) hx hb dX_countEnding_20 rfl hl (by decide) rfl (fun ls hl => ?_)
      refine lv_iinc (v := nI (fi + 1)) (lv' := [(3, .int (nI (fi + 1))), (2, .int ((acc) + (xFromR a f n ms (fi) (lo) (w)))), (0, .ref (q 0)), (1, .int (lo))]) hx hb dX_countEnding_21 hl (k := 1) rfl (nI_1 _) (by decide) rfl (fun ls hl => ?_)
      refine lv_goto (tgt := 4) hx hb dX_countEnding_24 (by decide) ?_
      exact ih (k - 1) (by omega) (fi + 1) _ _ _ _ ls (by omega) (by omega) (lv_sub hl [0, 1, 2, 3] rfl) hP hD hS (fun H locs ls hl hP hD hS => kk H locs ls (by rw [xCntL_in (by omega) c_9]; exact hl) (by rw [xCntL_in (by omega) c_9]; exact hP) (by rw [xCntL_in (by omega) c_9]; exact hD) hS)
set_option maxHeartbeats 4000000 in
set_option maxRecDepth 100000 in
/-- countEnding(lowestEnd) -/
theorem tX_countEnding (l : Launch) (dC : Nat → ClassId) (dI : Nat → Nat → Nat) (q : Nat → Nat) (cI cZ cG : ClassId) (a : Nat → Nat → Int32) (f : Nat → Int32) (w : Nat → Nat → Int32) (sz : Nat) (n ms : Nat) (lo : Int32) (hn : n ≤ 16) (hf1 : f 1 = nI n) (h0 : 1 ≤ ms) (hm : ms ≤ 5) (hf4 : f 4 = nI ms)  : Met l yX_countEnding wX_countEnding ({ frames := 4, cells := 0, slots := 0, locals := 99 }) (va_Pc [.ref (q 0), .int (lo)] (fun U => U.heap.size = sz ∧ va_P (dC, dI) cls2 (xw q cI cZ cG a f w) U.heap ∧ va_K (dC, dI) cls2 (xt cI cZ cG) U ∧ va_D (fun _ => True) (xw q cI cZ cG a f w))) (va_Qi (fun (r0 : Int32) (u : XS) => r0 = (xCntL a f n ms lo (n + 1) 0 0 w).1 ∧ u = (a, f, (xCntL a f n ms lo (n + 1) 0 0 w).2)) (atX dC dI q cI cZ cG (va_A (xw q cI cZ cG a f w) sz)) (va_A (xw q cI cZ cG a f w) sz)) 0 0 (va_A (xw q cI cZ cG a f w) sz) := by
  refine Met.ofW (cc := cX_countEnding) (maxL := 4) (ret := (some .int)) (by decide) rfl ?_
  intro p e s m args below meth c s₁ B hml hv
  obtain ⟨rfl, hsz, hP, hK, hD0⟩ := hv
  have hx := B.exec
  have hb := B.bytes
  have hr := B.returns
  have hbw : ∀ w ∈ bw, w.before _ s = true := fun w h => atoms_spec (ws := wX_countEnding) B.pre w (List.mem_cons_of_mem _ h)
  have hown : s.vm.findClass "EventPatterns" = some m.cls := findClass_of_methodNamed B.named
  have hlocks := B.notSynchronized
  subst hsz
  have hD := hD0.self (sz := s.heap.size)
  generalize hAe : va_A (xw q cI cZ cG a f w) s.heap.size = A at hD ⊢
  have hA : ∀ q : Nat, s.heap.size ≤ q → A q := fun q h => by rw [← hAe]; exact Or.inr h
  have hS : va_S A s.heap s.heap [] := va_S.rf
  have hl := lv_entry ([.ref (q 0), .int (lo)]) (n := 4) (Nat.le_of_ble_eq_true rfl)
  rw [lg_entry_eq]
  generalize (lg_sl ([.ref (q 0), .int (lo)]) ++ List.replicate (4 - (lg_sl ([.ref (q 0), .int (lo)])).length) Slot.unset).toArray = ls at hl ⊢
  have hl : lv_has ls 4 [(0, .ref (q 0)), (1, .int (lo))] := hl
  refine lv_iconst (v := 0) hx hb dX_countEnding_0 (by decide) ?_
  refine lv_istore_n (lv' := [(2, .int (0)), (0, .ref (q 0)), (1, .int (lo))]) hx hb dX_countEnding_1 rfl hl (by decide) rfl (fun ls hl => ?_)
  refine lv_iconst (v := 0) hx hb dX_countEnding_2 (by decide) ?_
  refine lv_istore_n (lv' := [(3, .int (0)), (2, .int (0)), (0, .ref (q 0)), (1, .int (lo))]) hx hb dX_countEnding_3 rfl hl (by decide) rfl (fun ls hl => ?_)
  refine lX_countEnding l dC dI q cI cZ cG a f n ms lo hn hf1 h0 hm hf4 ⟨Nat.le_refl _, Nat.le_refl _⟩ hx hb hml hown hbw hK hA n 0 0 w s.heap [] ls (by omega) (by omega) (lv_sub hl [0, 1, 2, 3] rfl) hP hD hS (fun H locs ls hl hP hD hS => ?_)
  refine lv_iload_n hx hb dX_countEnding_27 rfl (lv_at hl 0 rfl) ?_
  exact W.iret (v := (xCntL a f n ms lo (n + 1) 0 0 w).1) hx hb hr (fun t ht hW => ⟨⟨(xCntL a f n ms lo (n + 1) 0 0 w).1, (a, f, (xCntL a f n ms lo (n + 1) 0 0 w).2), rfl, ⟨rfl, rfl⟩, by rw [ht]; exact hP, va_K.moved hW.alike hK, hD⟩, hS.F ht⟩) hS.2.2 dX_countEnding_28
def xAddA (a : Nat → Nat → Int32) (L pl st : Nat) : Nat → Nat → Int32 := va_up (va_up a 7 (upd (a 7) L (nI pl))) 8 (upd (a 8) L (nI st))
set_option maxHeartbeats 4000000 in
set_option maxRecDepth 100000 in
/-- addFound(place, step) -/
theorem tX_addFound (l : Launch) (dC : Nat → ClassId) (dI : Nat → Nat → Nat) (q : Nat → Nat) (cI cZ cG : ClassId) (a : Nat → Nat → Int32) (f : Nat → Int32) (w : Nat → Nat → Int32) (sz : Nat) (L pl st : Nat) (hL : L ≤ 16) (hf5 : f 5 = nI L) : Met l yX_addFound wX_addFound ({ frames := 0, cells := 0, slots := 0, locals := 0 }) (va_Pc [.ref (q 0), .int (nI (pl)), .int (nI (st))] (fun U => U.heap.size = sz ∧ va_P (dC, dI) cls2 (xw q cI cZ cG a f w) U.heap ∧ va_K (dC, dI) cls2 (xt cI cZ cG) U ∧ va_D (fun _ => True) (xw q cI cZ cG a f w))) (va_Qv (fun (u : XS) => u = if L < 16 then (xAddA a L pl st, va_up f 5 (nI (L + 1)), w) else (a, f, w)) (atX dC dI q cI cZ cG (va_A (xw q cI cZ cG a f w) sz)) (va_A (xw q cI cZ cG a f w) sz)) 0 0 (va_A (xw q cI cZ cG a f w) sz) := by
  refine Met.ofW (cc := cX_addFound) (maxL := 3) (ret := none) (by decide) rfl ?_
  intro p e s m args below meth c s₁ B hml hv
  obtain ⟨rfl, hsz, hP, hK, hD0⟩ := hv
  have hx := B.exec
  have hb := B.bytes
  have hr := B.returns
  have hbw : ∀ w ∈ bw, w.before _ s = true := fun w h => atoms_spec (ws := wX_addFound) B.pre w (List.mem_cons_of_mem _ h)
  have hown : s.vm.findClass "EventPatterns" = some m.cls := findClass_of_methodNamed B.named
  have hlocks := B.notSynchronized
  subst hsz
  have hD := hD0.self (sz := s.heap.size)
  generalize hAe : va_A (xw q cI cZ cG a f w) s.heap.size = A at hD ⊢
  have hA : ∀ q : Nat, s.heap.size ≤ q → A q := fun q h => by rw [← hAe]; exact Or.inr h
  have hS : va_S A s.heap s.heap [] := va_S.rf
  have hl := lv_entry ([.ref (q 0), .int (nI (pl)), .int (nI (st))]) (n := 3) (Nat.le_of_ble_eq_true rfl)
  rw [lg_entry_eq]
  generalize (lg_sl ([.ref (q 0), .int (nI (pl)), .int (nI (st))]) ++ List.replicate (3 - (lg_sl ([.ref (q 0), .int (nI (pl)), .int (nI (st))])).length) Slot.unset).toArray = ls at hl ⊢
  have hl : lv_has ls 3 [(0, .ref (q 0)), (1, .int (nI (pl))), (2, .int (nI (st)))] := hl
  refine lv_aload_n hx hb dX_addFound_0 rfl (lv_at hl 0 rfl) ?_
  refine va_get (D := (dC, dI)) (ci := 0) (v := .int (nI (L))) (C := "EventPatterns") (T := TX) (N := 16) hx hb hbw inX hown hK hP 0 rfl rfl 15 (by decide) (hbw _ kf_X_59) (fun _ h9 => h9) (congrArg (fun z => some (Value.int z)) (hf5)) dX_addFound_1 ?_
  refine lv_bipush (v := 16) hx hb dX_addFound_4 (by decide) ?_
  refine nr_icmp_ge (tgt := 39) hx hb (a1 := L) (b1 := 16) (by omega) (by omega) dX_addFound_6 (by decide) (fun c_6 => ?_) (fun c_6 => ?_)
  · exact W.vret hx hb hr (fun t ht hW => ⟨⟨(a, f, w), rfl, by rw [if_neg (by omega)], by rw [ht]; exact hP, va_K.moved hW.alike hK, hD⟩, hS.F ht⟩) hS.2.2 dX_addFound_39
  · refine lv_aload_n hx hb dX_addFound_9 rfl (lv_at hl 0 rfl) ?_
    refine va_get (D := (dC, dI)) (ci := 0) (v := .ref (q 9)) (C := "EventPatterns") (T := TX) (N := 16) hx hb hbw inX hown hK hP 0 rfl rfl 13 (by decide) (hbw _ kf_X_37) (fun _ h9 => h9) rfl dX_addFound_10 ?_
    refine lv_aload_n hx hb dX_addFound_13 rfl (lv_at hl 0 rfl) ?_
    refine va_get (D := (dC, dI)) (ci := 0) (v := .int (nI (L))) (C := "EventPatterns") (T := TX) (N := 16) hx hb hbw inX hown hK hP 0 rfl rfl 15 (by decide) (hbw _ kf_X_59) (fun _ h9 => h9) (congrArg (fun z => some (Value.int z)) (hf5)) dX_addFound_14 ?_
    refine lv_iload_n hx hb dX_addFound_17 rfl (lv_at hl 1 rfl) ?_
    refine nr_iast hx hb hK hP hD hS 9 0 rfl rfl (j := L) (by omega) (by decide) dX_addFound_18 (fun H locs hP hD hS => ?_)
    have hP : va_P (dC, dI) cls2 (xw q cI cZ cG (va_up (a) 7 (upd (a 7) (L) (nI (pl)))) (f) (w)) H := hP
    have hD : va_D A (xw q cI cZ cG (va_up (a) 7 (upd (a 7) (L) (nI (pl)))) (f) (w)) := hD
    refine lv_aload_n hx hb dX_addFound_19 rfl (lv_at hl 0 rfl) ?_
    refine va_get (D := (dC, dI)) (ci := 0) (v := .ref (q 10)) (C := "EventPatterns") (T := TX) (N := 16) hx hb hbw inX hown hK hP 0 rfl rfl 14 (by decide) (hbw _ kf_X_40) (fun _ h9 => h9) rfl dX_addFound_20 ?_
    refine lv_aload_n hx hb dX_addFound_23 rfl (lv_at hl 0 rfl) ?_
    refine va_get (D := (dC, dI)) (ci := 0) (v := .int (nI (L))) (C := "EventPatterns") (T := TX) (N := 16) hx hb hbw inX hown hK hP 0 rfl rfl 15 (by decide) (hbw _ kf_X_59) (fun _ h9 => h9) (congrArg (fun z => some (Value.int z)) (hf5)) dX_addFound_24 ?_
    refine lv_iload_n hx hb dX_addFound_27 rfl (lv_at hl 2 rfl) ?_
    refine nr_iast hx hb hK hP hD hS 10 0 rfl rfl (j := L) (by omega) (by decide) dX_addFound_28 (fun H locs hP hD hS => ?_)
    have hP : va_P (dC, dI) cls2 (xw q cI cZ cG (va_up (va_up (a) 7 (upd (a 7) (L) (nI (pl)))) 8 (upd (a 8) (L) (nI (st)))) (f) (w)) H := hP
    have hD : va_D A (xw q cI cZ cG (va_up (va_up (a) 7 (upd (a 7) (L) (nI (pl)))) 8 (upd (a 8) (L) (nI (st)))) (f) (w)) := hD
    refine lv_aload_n hx hb dX_addFound_29 rfl (lv_at hl 0 rfl) ?_
    refine lv_dup hx hb dX_addFound_30 rfl ?_
    refine va_get (D := (dC, dI)) (ci := 0) (v := .int (nI (L))) (C := "EventPatterns") (T := TX) (N := 16) hx hb hbw inX hown hK hP 0 rfl rfl 15 (by decide) (hbw _ kf_X_59) (fun _ h9 => h9) (congrArg (fun z => some (Value.int z)) (hf5)) dX_addFound_31 ?_
    refine lv_iconst (v := 1) hx hb dX_addFound_34 (by decide) ?_
    refine nr_iadd hx hb (a1 := L) (b1 := 1) dX_addFound_35 ?_
    refine va_put (D := (dC, dI)) (ci := 0) (v := .int (nI (L + 1))) (ty := .int) (C := "EventPatterns") (T := TX) (N := 16) hx hb hbw inX tyX okX nmX hown hK hP hD hS 0 rfl rfl 15 (by decide) (hbw _ kf_X_59) (fun _ h9 => h9) rfl (by decide +kernel) rfl rfl (Nat.le_of_ble_eq_true rfl) dX_addFound_36 (fun H locs hP hD hS => ?_)
    have hP : va_P (dC, dI) cls2 (xw q cI cZ cG (va_up (va_up (a) 7 (upd (a 7) (L) (nI (pl)))) 8 (upd (a 8) (L) (nI (st)))) (va_up (f) 5 (nI (L + 1))) (w)) H := hP
    have hD : va_D A (xw q cI cZ cG (va_up (va_up (a) 7 (upd (a 7) (L) (nI (pl)))) 8 (upd (a 8) (L) (nI (st)))) (va_up (f) 5 (nI (L + 1))) (w)) := hD
    exact W.vret hx hb hr (fun t ht hW => ⟨⟨(xAddA a L pl st, va_up f 5 (nI (L + 1)), w), rfl, by rw [if_pos c_6], by rw [ht]; exact hP, va_K.moved hW.alike hK, hD⟩, hS.F ht⟩) hS.2.2 dX_addFound_39
