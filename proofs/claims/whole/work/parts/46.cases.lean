/-! THE LAW: its nine cases -/
abbrev lW (q r : Nat → Nat) (cI cZ cG cL : ClassId) (o : Nat) (h : Nat → Int64) (a : Nat → Nat → Int32) (f : Nat → Int32) (w : Nat → Nat → Int32) (b : Nat → Nat → Int32) (g : Nat → Int32) : va_W := ow q cI cZ cG cL o h a f w ++ mw r cI cZ b g
theorem bw_SW {own : String} {idx : Nat} {y : MethodName} {hc : Cond} (h1 : Cond.methodLink own idx y ∈ bw) (h2 : Cond.static y ∈ bw) (h4 : Cond.initialized y.cls ∈ bw) (h5 : hc ∈ bw) : GoodIn bw (va_wsS own idx y (hc :: bw)) := by
  intro w hw
  have hm : w ∈ bw := by
    simp only [va_wsS, List.cons_append, List.nil_append, List.mem_cons] at hw
    rcases hw with rfl | rfl | rfl | rfl | h
    · exact h1
    · exact h2
    · exact h4
    · exact h5
    · exact h
  exact ⟨hm, bw_g hm⟩
theorem nr_sld {p : Program} {l : Launch} {e : Env} {R : Room} {s : State} {m : MethodId} {args : Array Value} {below : List Frame} {meth : Method} {c : Code} {H : Heap} {locs : List Loc} {cells slots : Nat} {Q : State → Prop} {cc : ByteArray} {pc : Nat} {ls : Array Slot} {rest : List Value} {A : Nat → Prop} {H0 : Heap}
    (hexec : p.tables.exec = Jvm.exec) (hb : c.code = cc) {b L : Nat} {xs : Nat → Int32} (hX : va_X b L xs s H0) (hbl : b < H0.size) (hbA : ¬ A b) (hS : va_S A H0 H locs) {j : Nat} (hj : j < L) (hL : L < 2 ^ 30) (hdg : decode cc pc = .ok (.iaload, 1))
    (kk : W p l e R s m args below meth c H locs cells slots Q (F0 m (pc + 1) ls (.int (xs j) :: rest))) : W p l e R s m args below meth c H locs cells slots Q (F0 m pc ls (.int (nI j) :: .ref b :: rest)) :=
  va_sld hexec hb hX hbl hbA hS (pk_in j L hj rfl (by omega)) hdg (by rw [nI_clamp (by omega)]; exact kk)
theorem lk_cmp (x : Int64) : lg_cmp x x = 0 := by simp [lg_cmp]
set_option maxHeartbeats 4000000 in
set_option maxRecDepth 100000 in
/-- the law's case of event -/
theorem lL_event (l : Launch) (dC : Nat → ClassId) (dI : Nat → Nat → Nat) (q r : Nat → Nat) (cI cZ cG cL : ClassId) (o : Nat) {p : Program} {e : Env} {s : State} {m : MethodId} {args : Array Value} {below : List Frame} {meth : Method} {c : Code} {Q : State → Prop} {A : Nat → Prop} {cells slots : Nat} {b0 L : Nat} {xs : Nat → Int32} (hL : L < 2 ^ 30) (hcs : cells + 3 ≤ room_1.cells ∧ slots + 18 ≤ room_1.slots) (hx : p.tables.exec = Jvm.exec) (hb : c.code = cL_law) (hml : c.maxLocals = 7) (hown : s.vm.findClass "EventPatternsLaw" = some m.cls) (hbw : ∀ w ∈ bw, w.before args s = true) (hK : va_K (dC, dI) cls2 (ot cI cZ cG cL) s) (hA : ∀ q : Nat, s.heap.size ≤ q → A q) (hX : va_X b0 L xs s s.heap) (hbl : b0 < s.heap.size) (hbA : ¬ A b0) (hE : xE l A s s.heap) (hNc : xNc s)
    (i : Nat) (hi : i + 5 ≤ L) (h : Nat → Int64) (a : Nat → Nat → Int32) (f : Nat → Int32) (w : Nat → Nat → Int32) (b : Nat → Nat → Int32) (g : Nat → Int32) (ev n ms : Nat) (hLn : Ln a f b g ev n ms) (H : Heap) (locs : List Loc) (ls : Array Slot) (hl : lv_has ls 7 [(4, .int (nI i)), (0, .ref b0), (1, .ref (q 0)), (2, .ref (r 0)), (3, .ref o)]) (hP : va_P (dC, dI) cls2 (lW q r cI cZ cG cL o h a f w b g) H) (hD : va_D A (lW q r cI cZ cG cL o h a f w b g)) (hS : va_S A s.heap H locs)
    (kk : ∀ (u : XS × (Nat → Int64)) (v : MS) (ev n ms : Nat) (H : Heap) (locs : List Loc) (ls : Array Slot), Ln u.1.1 u.1.2.1 v.1 v.2 ev n ms → lv_has ls 7 [(4, .int (nI i)), (0, .ref b0), (1, .ref (q 0)), (2, .ref (r 0)), (3, .ref o)] → va_P (dC, dI) cls2 (lW q r cI cZ cG cL o u.2 u.1.1 u.1.2.1 u.1.2.2 v.1 v.2) H → va_D A (lW q r cI cZ cG cL o u.2 u.1.1 u.1.2.1 u.1.2.2 v.1 v.2) → va_S A s.heap H locs → W p l e room_1 s m args below meth c H locs (cells + 3) (slots + 18) Q (F0 m 572 ls [])) :
    W p l e room_1 s m args below meth c H locs cells slots Q (F0 m 88 ls []) := by
  obtain ⟨hAg, hev, hf0, hf1, hf4, hg1, hg4⟩ := id hLn
  obtain ⟨hn, hnev, hdf, hm, hsy⟩ := hLn.lo
  refine lv_aload_n hx hb dL_law_88 rfl (lv_at hl 2 rfl) ?_
  refine lv_aload_n hx hb dL_law_89 rfl (lv_at hl 1 rfl) ?_
  refine lv_iload hx hb dL_law_90 (lv_at hl 0 rfl) ?_
  refine lv_iconst (v := 1) hx hb dL_law_92 (by decide) ?_
  refine nr_iadd hx hb (a1 := i) (b1 := 1) dL_law_93 ?_
  refine nr_sld hx hb hX hbl hbA hS (j := i + 1) (by omega) hL dL_law_94 ?_
  refine lv_aload_n hx hb dL_law_95 rfl (lv_at hl 1 rfl) ?_
  refine lv_iload hx hb dL_law_96 (lv_at hl 0 rfl) ?_
  refine lv_iconst (v := 2) hx hb dL_law_98 (by decide) ?_
  refine nr_iadd hx hb (a1 := i) (b1 := 2) dL_law_99 ?_
  refine nr_sld hx hb hX hbl hbA hS (j := i + 2) (by omega) hL dL_law_100 ?_
  refine lv_aload_n hx hb dL_law_101 rfl (lv_at hl 1 rfl) ?_
  refine lv_iload hx hb dL_law_102 (lv_at hl 0 rfl) ?_
  refine lv_iconst (v := 3) hx hb dL_law_104 (by decide) ?_
  refine nr_iadd hx hb (a1 := i) (b1 := 3) dL_law_105 ?_
  refine nr_sld hx hb hX hbl hbA hS (j := i + 3) (by omega) hL dL_law_106 ?_
  refine lv_aload_n hx hb dL_law_107 rfl (lv_at hl 4 rfl) ?_
  have hPc := hP.sub (ws' := ow q cI cZ cG cL o (h) (a) (f) (w)) [0, 1, 2, 3, 4, 5, 6, 7, 8, 9, 10, 11, 12, 13, 14, 15, 16, 17, 18, 19, 20, 21, 22, 23, 24, 25, 26, 27] rfl
  have hDc := hD.sub (ws' := ow q cI cZ cG cL o (h) (a) (f) (w)) [0, 1, 2, 3, 4, 5, 6, 7, 8, 9, 10, 11, 12, 13, 14, 15, 16, 17, 18, 19, 20, 21, 22, 23, 24, 25, 26, 27] (by decide) rfl
  have hFc := va_free (wc := ow q cI cZ cG cL o (h) (a) (f) (w)) hD hS hA [0, 1, 2, 3, 4, 5, 6, 7, 8, 9, 10, 11, 12, 13, 14, 15, 16, 17, 18, 19, 20, 21, 22, 23, 24, 25, 26, 27] rfl
  refine va_calli (vx_runSW (As := [.ref (q 0), .int (xs (i + 1)), .int (xs (i + 2)), .int (xs (i + 3)), .ref o]) (rest := []) ⟨hx, hb, hml, hown, hbw⟩ (tL_event l dC dI q cI cZ cG cL o h a f w H.size n ev (xs (i + 1)) (xs (i + 2)) (xs (i + 3)) hn hf1 hev hf0) (vx_cwSW 5 hbw (bw_SW km_L_47 ks_yL_event ki_EventPatternsLaw kcL_event) rfl rfl rfl (by decide +kernel) ⟨Nat.le_of_ble_eq_true rfl, Nat.le_of_ble_eq_true rfl⟩) ⟨fun a U g mk q => by obtain ⟨q0, q1, qP, qK, qD, qE, qN⟩ := q; exact ⟨q0, q1, qP, va_K.moved (u := U) (U := U.calling g mk a) (Vm.Alike.refl U.vm) qK, qD, xE.same (s := U) rfl qE, xNc.moved (u := U) (U := U.calling g mk a) (Vm.Alike.refl U.vm) qN⟩, fun U hU hW => ⟨rfl, by rw [hU], by rw [hU]; exact hPc, va_K.moved hW.alike hK, hDc.weaken (fun _ _ _ _ => trivial), by rw [hU]; exact ((hE.kept hS.2.1).narrow hFc).warm hW, hNc.moved hW.alike⟩⟩ rfl rfl hl.1 rfl (lv_room (Nat.le_of_ble_eq_true rfl)) dL_law_108 ⟨Nat.le_trans (by omega) hcs.1, Nat.le_trans (by omega) hcs.2⟩) hS (fun q _ h => hFc q h) hFc (fun r0 u t H1 locs ht hvm hq1 hB hz1 hk1 hS => ?_)
  obtain ⟨hP1, hK1, hD1⟩ := hB
  rw [ht] at hP1
  obtain ⟨hP, hD⟩ := va_join (wr := mw r cI cZ (b) (g)) (w1 := ow q cI cZ cG cL o (u.2) (u.1.1) (u.1.2.1) (u.1.2.2)) hP hD [0, 1, 2, 3, 4, 5, 6, 7, 8, 9, 10, 11, 12, 13, 14, 15, 16, 17, 18, 19, 20, 21, 22, 23, 24, 25, 26, 27] [28, 29, 30, 31, 32, 33, 34, 35, 36, 37, 38] rfl rfl (by decide) (by decide) hk1 hFc hP1 hD1
  generalize H1 = H at hP hS ⊢
  refine lv_istore (lv' := [(5, .int r0), (4, .int (nI i)), (0, .ref b0), (1, .ref (q 0)), (2, .ref (r 0)), (3, .ref o)]) hx hb dL_law_111 hl (by decide) rfl (fun ls hl => ?_)
  refine lv_aload_n hx hb dL_law_113 rfl (lv_at hl 4 rfl) ?_
  refine lv_aload_n hx hb dL_law_114 rfl (lv_at hl 2 rfl) ?_
  refine lv_iload hx hb dL_law_115 (lv_at hl 1 rfl) ?_
  refine lv_iconst (v := 1) hx hb dL_law_117 (by decide) ?_
  refine nr_iadd hx hb (a1 := i) (b1 := 1) dL_law_118 ?_
  refine nr_sld hx hb hX hbl hbA hS (j := i + 1) (by omega) hL dL_law_119 ?_
  refine lv_aload_n hx hb dL_law_120 rfl (lv_at hl 2 rfl) ?_
  refine lv_iload hx hb dL_law_121 (lv_at hl 1 rfl) ?_
  refine lv_iconst (v := 2) hx hb dL_law_123 (by decide) ?_
  refine nr_iadd hx hb (a1 := i) (b1 := 2) dL_law_124 ?_
  refine nr_sld hx hb hX hbl hbA hS (j := i + 2) (by omega) hL dL_law_125 ?_
  refine lv_aload_n hx hb dL_law_126 rfl (lv_at hl 2 rfl) ?_
  refine lv_iload hx hb dL_law_127 (lv_at hl 1 rfl) ?_
  refine lv_iconst (v := 3) hx hb dL_law_129 (by decide) ?_
  refine nr_iadd hx hb (a1 := i) (b1 := 3) dL_law_130 ?_
  refine nr_sld hx hb hX hbl hbA hS (j := i + 3) (by omega) hL dL_law_131 ?_
  have hPm := hP.sub (ws' := mw r cI cZ (b) (g)) [0, 1, 2, 3, 4, 5, 6, 7, 8, 9, 10] rfl
  have hDm := hD.sub (ws' := mw r cI cZ (b) (g)) [0, 1, 2, 3, 4, 5, 6, 7, 8, 9, 10] (by decide) rfl
  have hKm := hK.sub (tys' := xt cI cZ cG) [0, 1, 2] rfl
  have hFm := va_free (wc := mw r cI cZ (b) (g)) hD hS hA [0, 1, 2, 3, 4, 5, 6, 7, 8, 9, 10] rfl
  refine va_calli (va_runV (As := [.int (xs (i + 1)), .int (xs (i + 2)), .int (xs (i + 3))]) (rest := []) ⟨hx, hb, hml, hown, hbw⟩ (tM_event l dC dI r cI cZ cG b g H.size ev (xs (i + 1)) (xs (i + 2)) (xs (i + 3)) hev hg1) (cwV 3 hbw (bw_V km_L_52 ki_yM_event ksel_yM_event ki_EventPatternsModel kcM_event) rfl rfl rfl (by decide +kernel) ⟨Nat.le_of_ble_eq_true rfl, Nat.le_of_ble_eq_true rfl⟩) ⟨fun a U g mk q => by obtain ⟨q0, q1, qP, qK, qD⟩ := q; exact ⟨q0, q1, qP, va_K.moved (u := U) (U := U.calling g mk a) (Vm.Alike.refl U.vm) qK, qD⟩, va_recv hK hP (ci := 1) (q0 := 0) rfl rfl, fun U hU hW => ⟨rfl, by rw [hU], by rw [hU]; exact hPm, va_K.moved hW.alike hKm, hDm.weaken (fun _ _ _ _ => trivial)⟩⟩ rfl rfl hl.1 rfl (lv_room (Nat.le_of_ble_eq_true rfl)) dL_law_132 ⟨Nat.le_trans (by omega) hcs.1, Nat.le_trans (by omega) hcs.2⟩) hS (fun q _ h => hFm q h) hFm (fun r1 v t H1 locs ht hvm hq2 hB hz2 hk2 hS => ?_)
  obtain ⟨hP2, hK2, hD2⟩ := hB
  rw [ht] at hP2
  obtain ⟨hP, hD⟩ := va_join (wr := ow q cI cZ cG cL o (u.2) (u.1.1) (u.1.2.1) (u.1.2.2)) (w1 := mw r cI cZ (v.1) (v.2)) hP hD [0, 1, 2, 3, 4, 5, 6, 7, 8, 9, 10] [11, 12, 13, 14, 15, 16, 17, 18, 19, 20, 21, 22, 23, 24, 25, 26, 27, 28, 29, 30, 31, 32, 33, 34, 35, 36, 37, 38] rfl rfl (by decide) (by decide) hk2 hFm hP2 hD2
  generalize H1 = H at hP hS ⊢
  obtain ⟨hthr, hval, e9, n9, m9, hL9⟩ := ly_event hLn hq1 hq2
  refine lv_istore (lv' := [(6, .int r1), (5, .int r0), (4, .int (nI i)), (0, .ref b0), (1, .ref (q 0)), (2, .ref (r 0)), (3, .ref o)]) hx hb dL_law_135 hl (by decide) rfl (fun ls hl => ?_)
  refine lv_aload_n hx hb dL_law_137 rfl (lv_at hl 5 rfl) ?_
  have hPt := hP.sub (ws' := mw r cI cZ (v.1) (v.2)) [28, 29, 30, 31, 32, 33, 34, 35, 36, 37, 38] rfl
  refine vp_callSi (W.runV (As := []) (rest := []) ⟨hx, hb, hml, hown, hbw⟩ (tM_thrown l dC dI r cI cZ cG v.1 v.2) (cwV 0 hbw (bw_V km_L_53 ki_yM_thrown ksel_yM_thrown ki_EventPatternsModel kcM_thrown) rfl rfl rfl (by decide +kernel) ⟨Nat.le_of_ble_eq_true rfl, Nat.le_of_ble_eq_true rfl⟩) ⟨fun a U g mk q => by obtain ⟨q0, qP, qK⟩ := q; exact ⟨q0, qP, va_K.moved (u := U) (U := U.calling g mk a) (Vm.Alike.refl U.vm) qK⟩, va_recv hK hP (ci := 1) (q0 := 28) rfl rfl, fun U hU hW => ⟨rfl, by rw [hU]; exact hPt, va_K.moved hW.alike hKm⟩⟩ rfl rfl hl.1 rfl (lv_room (Nat.le_of_ble_eq_true rfl)) dL_law_138 ⟨Nat.le_trans (by omega) hcs.1, Nat.le_trans (by omega) hcs.2⟩) (fun r2 hr2 => ?_)
  refine lv_iload hx hb dL_law_141 (lv_at hl 1 rfl) ?_
  refine lv_icmp_eq (tgt := 148) hx hb dL_law_143 (by decide) (fun c1 => ?_) (fun c1 => absurd (hr2.trans hthr) c1)
  refine lv_iload hx hb dL_law_148 (lv_at hl 1 rfl) ?_
  refine lv_if_ne (tgt := 165) hx hb dL_law_150 (by decide) (fun c2 => ?_) (fun c2 => ?_)
  · refine lv_goto (tgt := 572) hx hb dL_law_165 (by decide) ?_
    refine W.widen (k := cells + 3) (n := slots + 18) (by omega) (by omega) ?_
    exact kk u v e9 n9 m9 _ _ _ hL9 (lv_sub hl [2, 3, 4, 5, 6] rfl) hP hD hS
  · refine lv_aload_n hx hb dL_law_153 rfl (lv_at hl 6 rfl) ?_
    refine lv_iconst (v := 0) hx hb dL_law_154 (by decide) ?_
    refine va_lald hx hb hK hP 0 3 rfl rfl (by unfold vp_in; decide) dL_law_155 ?_
    refine lv_iload hx hb dL_law_156 (lv_at hl 0 rfl) ?_
    refine lv_i2l hx hb dL_law_158 rfl ?_
    refine W.lcmp hx hb dL_law_159 ?_
    refine lv_if_eq (tgt := 165) hx hb dL_law_160 (by decide) (fun _ => ?_) (fun c3 => absurd ((congrArg (fun z => lg_cmp z r1.toInt64) (hval c2)).trans (lk_cmp _)) c3)
    refine lv_goto (tgt := 572) hx hb dL_law_165 (by decide) ?_
    refine W.widen (k := cells + 3) (n := slots + 18) (by omega) (by omega) ?_
    exact kk u v e9 n9 m9 _ _ _ hL9 (lv_sub hl [2, 3, 4, 5, 6] rfl) hP hD hS
set_option maxHeartbeats 4000000 in
set_option maxRecDepth 100000 in
/-- the law's case of clear -/
theorem lL_clear (l : Launch) (dC : Nat → ClassId) (dI : Nat → Nat → Nat) (q r : Nat → Nat) (cI cZ cG cL : ClassId) (o : Nat) {p : Program} {e : Env} {s : State} {m : MethodId} {args : Array Value} {below : List Frame} {meth : Method} {c : Code} {Q : State → Prop} {A : Nat → Prop} {cells slots : Nat} {b0 L : Nat} {xs : Nat → Int32} (hL : L < 2 ^ 30) (hcs : cells + 3 ≤ room_1.cells ∧ slots + 18 ≤ room_1.slots) (hx : p.tables.exec = Jvm.exec) (hb : c.code = cL_law) (hml : c.maxLocals = 7) (hown : s.vm.findClass "EventPatternsLaw" = some m.cls) (hbw : ∀ w ∈ bw, w.before args s = true) (hK : va_K (dC, dI) cls2 (ot cI cZ cG cL) s) (hA : ∀ q : Nat, s.heap.size ≤ q → A q) (hX : va_X b0 L xs s s.heap) (hbl : b0 < s.heap.size) (hbA : ¬ A b0) (hE : xE l A s s.heap) (hNc : xNc s)
    (i : Nat) (hi : i + 5 ≤ L) (h : Nat → Int64) (a : Nat → Nat → Int32) (f : Nat → Int32) (w : Nat → Nat → Int32) (b : Nat → Nat → Int32) (g : Nat → Int32) (ev n ms : Nat) (hLn : Ln a f b g ev n ms) (H : Heap) (locs : List Loc) (ls : Array Slot) (hl : lv_has ls 7 [(4, .int (nI i)), (0, .ref b0), (1, .ref (q 0)), (2, .ref (r 0)), (3, .ref o)]) (hP : va_P (dC, dI) cls2 (lW q r cI cZ cG cL o h a f w b g) H) (hD : va_D A (lW q r cI cZ cG cL o h a f w b g)) (hS : va_S A s.heap H locs)
    (kk : ∀ (u : XS × (Nat → Int64)) (v : MS) (ev n ms : Nat) (H : Heap) (locs : List Loc) (ls : Array Slot), Ln u.1.1 u.1.2.1 v.1 v.2 ev n ms → lv_has ls 7 [(4, .int (nI i)), (0, .ref b0), (1, .ref (q 0)), (2, .ref (r 0)), (3, .ref o)] → va_P (dC, dI) cls2 (lW q r cI cZ cG cL o u.2 u.1.1 u.1.2.1 u.1.2.2 v.1 v.2) H → va_D A (lW q r cI cZ cG cL o u.2 u.1.1 u.1.2.1 u.1.2.2 v.1 v.2) → va_S A s.heap H locs → W p l e room_1 s m args below meth c H locs (cells + 3) (slots + 18) Q (F0 m 572 ls [])) :
    W p l e room_1 s m args below meth c H locs cells slots Q (F0 m 168 ls []) := by
  refine lv_aload_n hx hb dL_law_168 rfl (lv_at hl 2 rfl) ?_
  have hPc := hP.sub (ws' := xw q cI cZ cG a f w) [1, 2, 3, 4, 5, 6, 7, 8, 9, 10, 11, 12, 13, 14, 15, 16, 17, 18, 19, 20, 21, 22, 23, 24, 25, 26, 27] rfl
  have hDc := hD.sub (ws' := xw q cI cZ cG a f w) [1, 2, 3, 4, 5, 6, 7, 8, 9, 10, 11, 12, 13, 14, 15, 16, 17, 18, 19, 20, 21, 22, 23, 24, 25, 26, 27] (by decide) rfl
  have hKm := hK.sub (tys' := xt cI cZ cG) [0, 1, 2] rfl
  have hFc := va_free (wc := xw q cI cZ cG a f w) hD hS hA [1, 2, 3, 4, 5, 6, 7, 8, 9, 10, 11, 12, 13, 14, 15, 16, 17, 18, 19, 20, 21, 22, 23, 24, 25, 26, 27] rfl
  refine va_callv (va_runV (As := []) (rest := []) ⟨hx, hb, hml, hown, hbw⟩ (tX_clear l dC dI q cI cZ cG a f w H.size) (cwV 0 hbw (bw_V km_L_56 ki_yX_clear ksel_yX_clear ki_EventPatterns kcX_clear) rfl rfl rfl (by decide +kernel) ⟨Nat.le_of_ble_eq_true rfl, Nat.le_of_ble_eq_true rfl⟩) ⟨fun a U g mk q => by obtain ⟨q0, q1, qP, qK, qD⟩ := q; exact ⟨q0, q1, qP, va_K.moved (u := U) (U := U.calling g mk a) (Vm.Alike.refl U.vm) qK, qD⟩, va_recv hK hP (ci := 0) (q0 := 1) rfl rfl, fun U hU hW => ⟨rfl, by rw [hU], by rw [hU]; exact hPc, va_K.moved hW.alike hKm, hDc.weaken (fun _ _ _ _ => trivial)⟩⟩ rfl rfl hl.1 rfl (lv_room (Nat.le_of_ble_eq_true rfl)) dL_law_169 ⟨Nat.le_trans (by omega) hcs.1, Nat.le_trans (by omega) hcs.2⟩) hS (fun q _ h => hFc q h) hFc (fun u t H1 locs ht hvm hq1 hB hz1 hk1 hS => ?_)
  obtain ⟨hP1, hK1, hD1⟩ := hB
  rw [ht] at hP1
  obtain ⟨hP, hD⟩ := va_join (wr := [(o, .inl (cL, 1, .inr (.inl h)))] ++ mw r cI cZ (b) (g)) (w1 := xw q cI cZ cG u.1 u.2.1 u.2.2) hP hD [1, 2, 3, 4, 5, 6, 7, 8, 9, 10, 11, 12, 13, 14, 15, 16, 17, 18, 19, 20, 21, 22, 23, 24, 25, 26, 27] [0, 28, 29, 30, 31, 32, 33, 34, 35, 36, 37, 38] rfl rfl (by decide) (by decide) hk1 hFc hP1 hD1
  generalize H1 = H at hP hS ⊢
  refine lv_aload_n hx hb dL_law_172 rfl (lv_at hl 3 rfl) ?_
  have hPm := hP.sub (ws' := mw r cI cZ (b) (g)) [1, 2, 3, 4, 5, 6, 7, 8, 9, 10, 11] rfl
  have hDm := hD.sub (ws' := mw r cI cZ (b) (g)) [1, 2, 3, 4, 5, 6, 7, 8, 9, 10, 11] (by decide) rfl
  have hFm := va_free (wc := mw r cI cZ (b) (g)) hD hS hA [1, 2, 3, 4, 5, 6, 7, 8, 9, 10, 11] rfl
  refine va_callv (va_runV (As := []) (rest := []) ⟨hx, hb, hml, hown, hbw⟩ (tM_clear l dC dI r cI cZ cG b g H.size) (cwV 0 hbw (bw_V km_L_59 ki_yM_clear ksel_yM_clear ki_EventPatternsModel kcM_clear) rfl rfl rfl (by decide +kernel) ⟨Nat.le_of_ble_eq_true rfl, Nat.le_of_ble_eq_true rfl⟩) ⟨fun a U g mk q => by obtain ⟨q0, q1, qP, qK, qD⟩ := q; exact ⟨q0, q1, qP, va_K.moved (u := U) (U := U.calling g mk a) (Vm.Alike.refl U.vm) qK, qD⟩, va_recv hK hP (ci := 1) (q0 := 1) rfl rfl, fun U hU hW => ⟨rfl, by rw [hU], by rw [hU]; exact hPm, va_K.moved hW.alike hKm, hDm.weaken (fun _ _ _ _ => trivial)⟩⟩ rfl rfl hl.1 rfl (lv_room (Nat.le_of_ble_eq_true rfl)) dL_law_173 ⟨Nat.le_trans (by omega) hcs.1, Nat.le_trans (by omega) hcs.2⟩) hS (fun q _ h => hFm q h) hFm (fun v t H1 locs ht hvm hq2 hB hz2 hk2 hS => ?_)
  obtain ⟨hP2, hK2, hD2⟩ := hB
  rw [ht] at hP2
  obtain ⟨hP, hD⟩ := va_join (wr := [(o, .inl (cL, 1, .inr (.inl h)))] ++ xw q cI cZ cG u.1 u.2.1 u.2.2) (w1 := mw r cI cZ (v.1) (v.2)) hP hD [1, 2, 3, 4, 5, 6, 7, 8, 9, 10, 11] [0, 12, 13, 14, 15, 16, 17, 18, 19, 20, 21, 22, 23, 24, 25, 26, 27, 28, 29, 30, 31, 32, 33, 34, 35, 36, 37, 38] rfl rfl (by decide) (by decide) hk2 hFm hP2 hD2
  generalize H1 = H at hP hS ⊢
  refine lv_goto (tgt := 572) hx hb dL_law_176 (by decide) ?_
  obtain ⟨e9, n9, m9, hL9⟩ := ly_clear hLn
  subst hq1
  subst hq2
  refine W.widen (k := cells + 3) (n := slots + 18) (by omega) (by omega) ?_
  exact kk (_, h) _ e9 n9 m9 _ _ _ hL9 (lv_sub hl [0, 1, 2, 3, 4] rfl) hP hD hS
set_option maxHeartbeats 4000000 in
set_option maxRecDepth 100000 in
/-- the law's case of pattern -/
theorem lL_pattern (l : Launch) (dC : Nat → ClassId) (dI : Nat → Nat → Nat) (q r : Nat → Nat) (cI cZ cG cL : ClassId) (o : Nat) {p : Program} {e : Env} {s : State} {m : MethodId} {args : Array Value} {below : List Frame} {meth : Method} {c : Code} {Q : State → Prop} {A : Nat → Prop} {cells slots : Nat} {b0 L : Nat} {xs : Nat → Int32} (hL : L < 2 ^ 30) (hcs : cells + 3 ≤ room_1.cells ∧ slots + 18 ≤ room_1.slots) (hx : p.tables.exec = Jvm.exec) (hb : c.code = cL_law) (hml : c.maxLocals = 7) (hown : s.vm.findClass "EventPatternsLaw" = some m.cls) (hbw : ∀ w ∈ bw, w.before args s = true) (hK : va_K (dC, dI) cls2 (ot cI cZ cG cL) s) (hA : ∀ q : Nat, s.heap.size ≤ q → A q) (hX : va_X b0 L xs s s.heap) (hbl : b0 < s.heap.size) (hbA : ¬ A b0) (hE : xE l A s s.heap) (hNc : xNc s)
    (i : Nat) (hi : i + 5 ≤ L) (h : Nat → Int64) (a : Nat → Nat → Int32) (f : Nat → Int32) (w : Nat → Nat → Int32) (b : Nat → Nat → Int32) (g : Nat → Int32) (ev n ms : Nat) (hLn : Ln a f b g ev n ms) (H : Heap) (locs : List Loc) (ls : Array Slot) (hl : lv_has ls 7 [(4, .int (nI i)), (0, .ref b0), (1, .ref (q 0)), (2, .ref (r 0)), (3, .ref o)]) (hP : va_P (dC, dI) cls2 (lW q r cI cZ cG cL o h a f w b g) H) (hD : va_D A (lW q r cI cZ cG cL o h a f w b g)) (hS : va_S A s.heap H locs)
    (kk : ∀ (u : XS × (Nat → Int64)) (v : MS) (ev n ms : Nat) (H : Heap) (locs : List Loc) (ls : Array Slot), Ln u.1.1 u.1.2.1 v.1 v.2 ev n ms → lv_has ls 7 [(4, .int (nI i)), (0, .ref b0), (1, .ref (q 0)), (2, .ref (r 0)), (3, .ref o)] → va_P (dC, dI) cls2 (lW q r cI cZ cG cL o u.2 u.1.1 u.1.2.1 u.1.2.2 v.1 v.2) H → va_D A (lW q r cI cZ cG cL o u.2 u.1.1 u.1.2.1 u.1.2.2 v.1 v.2) → va_S A s.heap H locs → W p l e room_1 s m args below meth c H locs (cells + 3) (slots + 18) Q (F0 m 572 ls [])) :
    W p l e room_1 s m args below meth c H locs cells slots Q (F0 m 179 ls []) := by
  obtain ⟨hAg, hev, hf0, hf1, hf4, hg1, hg4⟩ := id hLn
  obtain ⟨hn, hnev, hdf, hm, hsy⟩ := hLn.lo
  refine lv_aload_n hx hb dL_law_179 rfl (lv_at hl 2 rfl) ?_
  refine lv_aload_n hx hb dL_law_180 rfl (lv_at hl 1 rfl) ?_
  refine lv_iload hx hb dL_law_181 (lv_at hl 0 rfl) ?_
  refine lv_iconst (v := 1) hx hb dL_law_183 (by decide) ?_
  refine nr_iadd hx hb (a1 := i) (b1 := 1) dL_law_184 ?_
  refine nr_sld hx hb hX hbl hbA hS (j := i + 1) (by omega) hL dL_law_185 ?_
  refine lv_aload_n hx hb dL_law_186 rfl (lv_at hl 1 rfl) ?_
  refine lv_iload hx hb dL_law_187 (lv_at hl 0 rfl) ?_
  refine lv_iconst (v := 2) hx hb dL_law_189 (by decide) ?_
  refine nr_iadd hx hb (a1 := i) (b1 := 2) dL_law_190 ?_
  refine nr_sld hx hb hX hbl hbA hS (j := i + 2) (by omega) hL dL_law_191 ?_
  have hPc := hP.sub (ws' := ow q cI cZ cG cL o (h) (a) (f) (w)) [0, 1, 2, 3, 4, 5, 6, 7, 8, 9, 10, 11, 12, 13, 14, 15, 16, 17, 18, 19, 20, 21, 22, 23, 24, 25, 26, 27] rfl
  have hDc := hD.sub (ws' := ow q cI cZ cG cL o (h) (a) (f) (w)) [0, 1, 2, 3, 4, 5, 6, 7, 8, 9, 10, 11, 12, 13, 14, 15, 16, 17, 18, 19, 20, 21, 22, 23, 24, 25, 26, 27] (by decide) rfl
  have hFc := va_free (wc := ow q cI cZ cG cL o (h) (a) (f) (w)) hD hS hA [0, 1, 2, 3, 4, 5, 6, 7, 8, 9, 10, 11, 12, 13, 14, 15, 16, 17, 18, 19, 20, 21, 22, 23, 24, 25, 26, 27] rfl
  refine va_calli (vx_runSW (As := [.ref (q 0), .int (xs (i + 1)), .int (xs (i + 2))]) (rest := []) ⟨hx, hb, hml, hown, hbw⟩ (tL_pattern l dC dI q cI cZ cG cL o h a f w H.size (xs (i + 1)) (xs (i + 2))) (vx_cwSW 3 hbw (bw_SW km_L_60 ks_yL_pattern ki_EventPatternsLaw kcL_pattern) rfl rfl rfl (by decide +kernel) ⟨Nat.le_of_ble_eq_true rfl, Nat.le_of_ble_eq_true rfl⟩) ⟨fun a U g mk q => by obtain ⟨q0, q1, qP, qK, qD, qE, qN⟩ := q; exact ⟨q0, q1, qP, va_K.moved (u := U) (U := U.calling g mk a) (Vm.Alike.refl U.vm) qK, qD, xE.same (s := U) rfl qE, xNc.moved (u := U) (U := U.calling g mk a) (Vm.Alike.refl U.vm) qN⟩, fun U hU hW => ⟨rfl, by rw [hU], by rw [hU]; exact hPc, va_K.moved hW.alike hK, hDc.weaken (fun _ _ _ _ => trivial), by rw [hU]; exact ((hE.kept hS.2.1).narrow hFc).warm hW, hNc.moved hW.alike⟩⟩ rfl rfl hl.1 rfl (lv_room (Nat.le_of_ble_eq_true rfl)) dL_law_192 ⟨Nat.le_trans (by omega) hcs.1, Nat.le_trans (by omega) hcs.2⟩) hS (fun q _ h => hFc q h) hFc (fun r0 u t H1 locs ht hvm hq1 hB hz1 hk1 hS => ?_)
  obtain ⟨hP1, hK1, hD1⟩ := hB
  rw [ht] at hP1
  obtain ⟨hP, hD⟩ := va_join (wr := mw r cI cZ (b) (g)) (w1 := ow q cI cZ cG cL o (u.2) (u.1.1) (u.1.2.1) (u.1.2.2)) hP hD [0, 1, 2, 3, 4, 5, 6, 7, 8, 9, 10, 11, 12, 13, 14, 15, 16, 17, 18, 19, 20, 21, 22, 23, 24, 25, 26, 27] [28, 29, 30, 31, 32, 33, 34, 35, 36, 37, 38] rfl rfl (by decide) (by decide) hk1 hFc hP1 hD1
  generalize H1 = H at hP hS ⊢
  refine lv_istore (lv' := [(5, .int r0), (4, .int (nI i)), (0, .ref b0), (1, .ref (q 0)), (2, .ref (r 0)), (3, .ref o)]) hx hb dL_law_195 hl (by decide) rfl (fun ls hl => ?_)
  refine lv_aload_n hx hb dL_law_197 rfl (lv_at hl 4 rfl) ?_
  refine lv_aload_n hx hb dL_law_198 rfl (lv_at hl 2 rfl) ?_
  refine lv_iload hx hb dL_law_199 (lv_at hl 1 rfl) ?_
  refine lv_iconst (v := 1) hx hb dL_law_201 (by decide) ?_
  refine nr_iadd hx hb (a1 := i) (b1 := 1) dL_law_202 ?_
  refine nr_sld hx hb hX hbl hbA hS (j := i + 1) (by omega) hL dL_law_203 ?_
  refine lv_aload_n hx hb dL_law_204 rfl (lv_at hl 2 rfl) ?_
  refine lv_iload hx hb dL_law_205 (lv_at hl 1 rfl) ?_
  refine lv_iconst (v := 2) hx hb dL_law_207 (by decide) ?_
  refine nr_iadd hx hb (a1 := i) (b1 := 2) dL_law_208 ?_
  refine nr_sld hx hb hX hbl hbA hS (j := i + 2) (by omega) hL dL_law_209 ?_
  have hPm := hP.sub (ws' := mw r cI cZ (b) (g)) [0, 1, 2, 3, 4, 5, 6, 7, 8, 9, 10] rfl
  have hDm := hD.sub (ws' := mw r cI cZ (b) (g)) [0, 1, 2, 3, 4, 5, 6, 7, 8, 9, 10] (by decide) rfl
  have hKm := hK.sub (tys' := xt cI cZ cG) [0, 1, 2] rfl
  have hFm := va_free (wc := mw r cI cZ (b) (g)) hD hS hA [0, 1, 2, 3, 4, 5, 6, 7, 8, 9, 10] rfl
  refine va_callv (va_runV (As := [.int (xs (i + 1)), .int (xs (i + 2))]) (rest := []) ⟨hx, hb, hml, hown, hbw⟩ (tM_pattern l dC dI r cI cZ cG b g H.size (xs (i + 1)) (xs (i + 2))) (cwV 2 hbw (bw_V km_L_63 ki_yM_pattern ksel_yM_pattern ki_EventPatternsModel kcM_pattern) rfl rfl rfl (by decide +kernel) ⟨Nat.le_of_ble_eq_true rfl, Nat.le_of_ble_eq_true rfl⟩) ⟨fun a U g mk q => by obtain ⟨q0, q1, qP, qK, qD⟩ := q; exact ⟨q0, q1, qP, va_K.moved (u := U) (U := U.calling g mk a) (Vm.Alike.refl U.vm) qK, qD⟩, va_recv hK hP (ci := 1) (q0 := 0) rfl rfl, fun U hU hW => ⟨rfl, by rw [hU], by rw [hU]; exact hPm, va_K.moved hW.alike hKm, hDm.weaken (fun _ _ _ _ => trivial)⟩⟩ rfl rfl hl.1 rfl (lv_room (Nat.le_of_ble_eq_true rfl)) dL_law_210 ⟨Nat.le_trans (by omega) hcs.1, Nat.le_trans (by omega) hcs.2⟩) hS (fun q _ h => hFm q h) hFm (fun v t H1 locs ht hvm hq2 hB hz2 hk2 hS => ?_)
  obtain ⟨hP2, hK2, hD2⟩ := hB
  rw [ht] at hP2
  obtain ⟨hP, hD⟩ := va_join (wr := ow q cI cZ cG cL o (u.2) (u.1.1) (u.1.2.1) (u.1.2.2)) (w1 := mw r cI cZ (v.1) (v.2)) hP hD [0, 1, 2, 3, 4, 5, 6, 7, 8, 9, 10] [11, 12, 13, 14, 15, 16, 17, 18, 19, 20, 21, 22, 23, 24, 25, 26, 27, 28, 29, 30, 31, 32, 33, 34, 35, 36, 37, 38] rfl rfl (by decide) (by decide) hk2 hFm hP2 hD2
  generalize H1 = H at hP hS ⊢
  obtain ⟨hthr, e9, n9, m9, hL9⟩ := ly_pattern hLn hq1 hq2
  refine lv_aload_n hx hb dL_law_213 rfl (lv_at hl 4 rfl) ?_
  have hPt := hP.sub (ws' := mw r cI cZ (v.1) (v.2)) [28, 29, 30, 31, 32, 33, 34, 35, 36, 37, 38] rfl
  refine vp_callSi (W.runV (As := []) (rest := []) ⟨hx, hb, hml, hown, hbw⟩ (tM_thrown l dC dI r cI cZ cG v.1 v.2) (cwV 0 hbw (bw_V km_L_53 ki_yM_thrown ksel_yM_thrown ki_EventPatternsModel kcM_thrown) rfl rfl rfl (by decide +kernel) ⟨Nat.le_of_ble_eq_true rfl, Nat.le_of_ble_eq_true rfl⟩) ⟨fun a U g mk q => by obtain ⟨q0, qP, qK⟩ := q; exact ⟨q0, qP, va_K.moved (u := U) (U := U.calling g mk a) (Vm.Alike.refl U.vm) qK⟩, va_recv hK hP (ci := 1) (q0 := 28) rfl rfl, fun U hU hW => ⟨rfl, by rw [hU]; exact hPt, va_K.moved hW.alike hKm⟩⟩ rfl rfl hl.1 rfl (lv_room (Nat.le_of_ble_eq_true rfl)) dL_law_214 ⟨Nat.le_trans (by omega) hcs.1, Nat.le_trans (by omega) hcs.2⟩) (fun r2 hr2 => ?_)
  refine lv_iload hx hb dL_law_217 (lv_at hl 0 rfl) ?_
  refine lv_icmp_eq (tgt := 224) hx hb dL_law_219 (by decide) (fun c1 => ?_) (fun c1 => absurd (hr2.trans hthr) c1)
  refine lv_goto (tgt := 572) hx hb dL_law_224 (by decide) ?_
  refine W.widen (k := cells + 3) (n := slots + 18) (by omega) (by omega) ?_
  exact kk u v e9 n9 m9 _ _ _ hL9 (lv_sub hl [1, 2, 3, 4, 5] rfl) hP hD hS
set_option maxHeartbeats 4000000 in
set_option maxRecDepth 100000 in
/-- the law's case of step -/
theorem lL_step (l : Launch) (dC : Nat → ClassId) (dI : Nat → Nat → Nat) (q r : Nat → Nat) (cI cZ cG cL : ClassId) (o : Nat) {p : Program} {e : Env} {s : State} {m : MethodId} {args : Array Value} {below : List Frame} {meth : Method} {c : Code} {Q : State → Prop} {A : Nat → Prop} {cells slots : Nat} {b0 L : Nat} {xs : Nat → Int32} (hL : L < 2 ^ 30) (hcs : cells + 3 ≤ room_1.cells ∧ slots + 18 ≤ room_1.slots) (hx : p.tables.exec = Jvm.exec) (hb : c.code = cL_law) (hml : c.maxLocals = 7) (hown : s.vm.findClass "EventPatternsLaw" = some m.cls) (hbw : ∀ w ∈ bw, w.before args s = true) (hK : va_K (dC, dI) cls2 (ot cI cZ cG cL) s) (hA : ∀ q : Nat, s.heap.size ≤ q → A q) (hX : va_X b0 L xs s s.heap) (hbl : b0 < s.heap.size) (hbA : ¬ A b0) (hE : xE l A s s.heap) (hNc : xNc s)
    (i : Nat) (hi : i + 5 ≤ L) (h : Nat → Int64) (a : Nat → Nat → Int32) (f : Nat → Int32) (w : Nat → Nat → Int32) (b : Nat → Nat → Int32) (g : Nat → Int32) (ev n ms : Nat) (hLn : Ln a f b g ev n ms) (H : Heap) (locs : List Loc) (ls : Array Slot) (hl : lv_has ls 7 [(4, .int (nI i)), (0, .ref b0), (1, .ref (q 0)), (2, .ref (r 0)), (3, .ref o)]) (hP : va_P (dC, dI) cls2 (lW q r cI cZ cG cL o h a f w b g) H) (hD : va_D A (lW q r cI cZ cG cL o h a f w b g)) (hS : va_S A s.heap H locs)
    (kk : ∀ (u : XS × (Nat → Int64)) (v : MS) (ev n ms : Nat) (H : Heap) (locs : List Loc) (ls : Array Slot), Ln u.1.1 u.1.2.1 v.1 v.2 ev n ms → lv_has ls 7 [(4, .int (nI i)), (0, .ref b0), (1, .ref (q 0)), (2, .ref (r 0)), (3, .ref o)] → va_P (dC, dI) cls2 (lW q r cI cZ cG cL o u.2 u.1.1 u.1.2.1 u.1.2.2 v.1 v.2) H → va_D A (lW q r cI cZ cG cL o u.2 u.1.1 u.1.2.1 u.1.2.2 v.1 v.2) → va_S A s.heap H locs → W p l e room_1 s m args below meth c H locs (cells + 3) (slots + 18) Q (F0 m 572 ls [])) :
    W p l e room_1 s m args below meth c H locs cells slots Q (F0 m 227 ls []) := by
  obtain ⟨hAg, hev, hf0, hf1, hf4, hg1, hg4⟩ := id hLn
  obtain ⟨hn, hnev, hdf, hm, hsy⟩ := hLn.lo
  by_cases hz : xs (i + 4) = 0
  · refine lv_aload_n hx hb dL_law_227 rfl (lv_at hl 2 rfl) ?_
    refine lv_aload_n hx hb dL_law_228 rfl (lv_at hl 1 rfl) ?_
    refine lv_iload hx hb dL_law_229 (lv_at hl 0 rfl) ?_
    refine lv_iconst (v := 1) hx hb dL_law_231 (by decide) ?_
    refine nr_iadd hx hb (a1 := i) (b1 := 1) dL_law_232 ?_
    refine nr_sld hx hb hX hbl hbA hS (j := i + 1) (by omega) hL dL_law_233 ?_
    refine lv_aload_n hx hb dL_law_234 rfl (lv_at hl 1 rfl) ?_
    refine lv_iload hx hb dL_law_235 (lv_at hl 0 rfl) ?_
    refine lv_iconst (v := 2) hx hb dL_law_237 (by decide) ?_
    refine nr_iadd hx hb (a1 := i) (b1 := 2) dL_law_238 ?_
    refine nr_sld hx hb hX hbl hbA hS (j := i + 2) (by omega) hL dL_law_239 ?_
    refine lv_aload_n hx hb dL_law_240 rfl (lv_at hl 1 rfl) ?_
    refine lv_iload hx hb dL_law_241 (lv_at hl 0 rfl) ?_
    refine lv_iconst (v := 3) hx hb dL_law_243 (by decide) ?_
    refine nr_iadd hx hb (a1 := i) (b1 := 3) dL_law_244 ?_
    refine nr_sld hx hb hX hbl hbA hS (j := i + 3) (by omega) hL dL_law_245 ?_
    refine lv_aload_n hx hb dL_law_246 rfl (lv_at hl 1 rfl) ?_
    refine lv_iload hx hb dL_law_247 (lv_at hl 0 rfl) ?_
    refine lv_iconst (v := 4) hx hb dL_law_249 (by decide) ?_
    refine nr_iadd hx hb (a1 := i) (b1 := 4) dL_law_250 ?_
    refine nr_sld hx hb hX hbl hbA hS (j := i + 4) (by omega) hL dL_law_251 ?_
    refine lv_if_eq (tgt := 259) hx hb dL_law_252 (by decide) (fun _ => ?_) (fun c9 => absurd hz c9)
    refine lv_iconst (v := 0) hx hb dL_law_259 (by decide) ?_
    refine lv_aload_n hx hb dL_law_260 rfl (lv_at hl 4 rfl) ?_
    have hPc := hP.sub (ws' := ow q cI cZ cG cL o (h) (a) (f) (w)) [0, 1, 2, 3, 4, 5, 6, 7, 8, 9, 10, 11, 12, 13, 14, 15, 16, 17, 18, 19, 20, 21, 22, 23, 24, 25, 26, 27] rfl
    have hDc := hD.sub (ws' := ow q cI cZ cG cL o (h) (a) (f) (w)) [0, 1, 2, 3, 4, 5, 6, 7, 8, 9, 10, 11, 12, 13, 14, 15, 16, 17, 18, 19, 20, 21, 22, 23, 24, 25, 26, 27] (by decide) rfl
    have hFc := va_free (wc := ow q cI cZ cG cL o (h) (a) (f) (w)) hD hS hA [0, 1, 2, 3, 4, 5, 6, 7, 8, 9, 10, 11, 12, 13, 14, 15, 16, 17, 18, 19, 20, 21, 22, 23, 24, 25, 26, 27] rfl
    refine va_calli (vx_runSW (As := [.ref (q 0), .int (xs (i + 1)), .int (xs (i + 2)), .int (xs (i + 3)), .int (0), .ref o]) (rest := []) ⟨hx, hb, hml, hown, hbw⟩ (tL_step l dC dI q cI cZ cG cL o h a f w H.size ms (xs (i + 1)) (xs (i + 2)) (xs (i + 3)) (0) hm hf4) (vx_cwSW 6 hbw (bw_SW km_L_64 ks_yL_step ki_EventPatternsLaw kcL_step) rfl rfl rfl (by decide +kernel) ⟨Nat.le_of_ble_eq_true rfl, Nat.le_of_ble_eq_true rfl⟩) ⟨fun a U g mk q => by obtain ⟨q0, q1, qP, qK, qD, qE, qN⟩ := q; exact ⟨q0, q1, qP, va_K.moved (u := U) (U := U.calling g mk a) (Vm.Alike.refl U.vm) qK, qD, xE.same (s := U) rfl qE, xNc.moved (u := U) (U := U.calling g mk a) (Vm.Alike.refl U.vm) qN⟩, fun U hU hW => ⟨rfl, by rw [hU], by rw [hU]; exact hPc, va_K.moved hW.alike hK, hDc.weaken (fun _ _ _ _ => trivial), by rw [hU]; exact ((hE.kept hS.2.1).narrow hFc).warm hW, hNc.moved hW.alike⟩⟩ rfl rfl hl.1 rfl (lv_room (Nat.le_of_ble_eq_true rfl)) dL_law_261 ⟨Nat.le_trans (by omega) hcs.1, Nat.le_trans (by omega) hcs.2⟩) hS (fun q _ h => hFc q h) hFc (fun r0 u t H1 locs ht hvm hq1 hB hz1 hk1 hS => ?_)
    obtain ⟨hP1, hK1, hD1⟩ := hB
    rw [ht] at hP1
    obtain ⟨hP, hD⟩ := va_join (wr := mw r cI cZ (b) (g)) (w1 := ow q cI cZ cG cL o (u.2) (u.1.1) (u.1.2.1) (u.1.2.2)) hP hD [0, 1, 2, 3, 4, 5, 6, 7, 8, 9, 10, 11, 12, 13, 14, 15, 16, 17, 18, 19, 20, 21, 22, 23, 24, 25, 26, 27] [28, 29, 30, 31, 32, 33, 34, 35, 36, 37, 38] rfl rfl (by decide) (by decide) hk1 hFc hP1 hD1
    generalize H1 = H at hP hS ⊢
    refine lv_istore (lv' := [(5, .int r0), (4, .int (nI i)), (0, .ref b0), (1, .ref (q 0)), (2, .ref (r 0)), (3, .ref o)]) hx hb dL_law_264 hl (by decide) rfl (fun ls hl => ?_)
    refine lv_aload_n hx hb dL_law_266 rfl (lv_at hl 4 rfl) ?_
    refine lv_aload_n hx hb dL_law_267 rfl (lv_at hl 2 rfl) ?_
    refine lv_iload hx hb dL_law_268 (lv_at hl 1 rfl) ?_
    refine lv_iconst (v := 1) hx hb dL_law_270 (by decide) ?_
    refine nr_iadd hx hb (a1 := i) (b1 := 1) dL_law_271 ?_
    refine nr_sld hx hb hX hbl hbA hS (j := i + 1) (by omega) hL dL_law_272 ?_
    refine lv_aload_n hx hb dL_law_273 rfl (lv_at hl 2 rfl) ?_
    refine lv_iload hx hb dL_law_274 (lv_at hl 1 rfl) ?_
    refine lv_iconst (v := 2) hx hb dL_law_276 (by decide) ?_
    refine nr_iadd hx hb (a1 := i) (b1 := 2) dL_law_277 ?_
    refine nr_sld hx hb hX hbl hbA hS (j := i + 2) (by omega) hL dL_law_278 ?_
    refine lv_aload_n hx hb dL_law_279 rfl (lv_at hl 2 rfl) ?_
    refine lv_iload hx hb dL_law_280 (lv_at hl 1 rfl) ?_
    refine lv_iconst (v := 3) hx hb dL_law_282 (by decide) ?_
    refine nr_iadd hx hb (a1 := i) (b1 := 3) dL_law_283 ?_
    refine nr_sld hx hb hX hbl hbA hS (j := i + 3) (by omega) hL dL_law_284 ?_
    refine lv_aload_n hx hb dL_law_285 rfl (lv_at hl 2 rfl) ?_
    refine lv_iload hx hb dL_law_286 (lv_at hl 1 rfl) ?_
    refine lv_iconst (v := 4) hx hb dL_law_288 (by decide) ?_
    refine nr_iadd hx hb (a1 := i) (b1 := 4) dL_law_289 ?_
    refine nr_sld hx hb hX hbl hbA hS (j := i + 4) (by omega) hL dL_law_290 ?_
    refine lv_if_eq (tgt := 298) hx hb dL_law_291 (by decide) (fun _ => ?_) (fun c9 => absurd hz c9)
    refine lv_iconst (v := 0) hx hb dL_law_298 (by decide) ?_
    have hPm := hP.sub (ws' := mw r cI cZ (b) (g)) [0, 1, 2, 3, 4, 5, 6, 7, 8, 9, 10] rfl
    have hDm := hD.sub (ws' := mw r cI cZ (b) (g)) [0, 1, 2, 3, 4, 5, 6, 7, 8, 9, 10] (by decide) rfl
    have hKm := hK.sub (tys' := xt cI cZ cG) [0, 1, 2] rfl
    have hFm := va_free (wc := mw r cI cZ (b) (g)) hD hS hA [0, 1, 2, 3, 4, 5, 6, 7, 8, 9, 10] rfl
    refine va_calli (va_runV (As := [.int (xs (i + 1)), .int (xs (i + 2)), .int (xs (i + 3)), .int (0)]) (rest := []) ⟨hx, hb, hml, hown, hbw⟩ (tM_step l dC dI r cI cZ cG b g H.size ms (xs (i + 1)) (xs (i + 2)) (xs (i + 3)) (0) hm hg4) (cwV 4 hbw (bw_V km_L_67 ki_yM_step ksel_yM_step ki_EventPatternsModel kcM_step) rfl rfl rfl (by decide +kernel) ⟨Nat.le_of_ble_eq_true rfl, Nat.le_of_ble_eq_true rfl⟩) ⟨fun a U g mk q => by obtain ⟨q0, q1, qP, qK, qD⟩ := q; exact ⟨q0, q1, qP, va_K.moved (u := U) (U := U.calling g mk a) (Vm.Alike.refl U.vm) qK, qD⟩, va_recv hK hP (ci := 1) (q0 := 0) rfl rfl, fun U hU hW => ⟨rfl, by rw [hU], by rw [hU]; exact hPm, va_K.moved hW.alike hKm, hDm.weaken (fun _ _ _ _ => trivial)⟩⟩ rfl rfl hl.1 rfl (lv_room (Nat.le_of_ble_eq_true rfl)) dL_law_299 ⟨Nat.le_trans (by omega) hcs.1, Nat.le_trans (by omega) hcs.2⟩) hS (fun q _ h => hFm q h) hFm (fun r1 v t H1 locs ht hvm hq2 hB hz2 hk2 hS => ?_)
    obtain ⟨hP2, hK2, hD2⟩ := hB
    rw [ht] at hP2
    obtain ⟨hP, hD⟩ := va_join (wr := ow q cI cZ cG cL o (u.2) (u.1.1) (u.1.2.1) (u.1.2.2)) (w1 := mw r cI cZ (v.1) (v.2)) hP hD [0, 1, 2, 3, 4, 5, 6, 7, 8, 9, 10] [11, 12, 13, 14, 15, 16, 17, 18, 19, 20, 21, 22, 23, 24, 25, 26, 27, 28, 29, 30, 31, 32, 33, 34, 35, 36, 37, 38] rfl rfl (by decide) (by decide) hk2 hFm hP2 hD2
    generalize H1 = H at hP hS ⊢
    obtain ⟨hthr, hval, e9, n9, m9, hL9⟩ := ly_step hLn hq1 hq2
    refine lv_istore (lv' := [(6, .int r1), (5, .int r0), (4, .int (nI i)), (0, .ref b0), (1, .ref (q 0)), (2, .ref (r 0)), (3, .ref o)]) hx hb dL_law_302 hl (by decide) rfl (fun ls hl => ?_)
    refine lv_aload_n hx hb dL_law_304 rfl (lv_at hl 5 rfl) ?_
    have hPt := hP.sub (ws' := mw r cI cZ (v.1) (v.2)) [28, 29, 30, 31, 32, 33, 34, 35, 36, 37, 38] rfl
    refine vp_callSi (W.runV (As := []) (rest := []) ⟨hx, hb, hml, hown, hbw⟩ (tM_thrown l dC dI r cI cZ cG v.1 v.2) (cwV 0 hbw (bw_V km_L_53 ki_yM_thrown ksel_yM_thrown ki_EventPatternsModel kcM_thrown) rfl rfl rfl (by decide +kernel) ⟨Nat.le_of_ble_eq_true rfl, Nat.le_of_ble_eq_true rfl⟩) ⟨fun a U g mk q => by obtain ⟨q0, qP, qK⟩ := q; exact ⟨q0, qP, va_K.moved (u := U) (U := U.calling g mk a) (Vm.Alike.refl U.vm) qK⟩, va_recv hK hP (ci := 1) (q0 := 28) rfl rfl, fun U hU hW => ⟨rfl, by rw [hU]; exact hPt, va_K.moved hW.alike hKm⟩⟩ rfl rfl hl.1 rfl (lv_room (Nat.le_of_ble_eq_true rfl)) dL_law_305 ⟨Nat.le_trans (by omega) hcs.1, Nat.le_trans (by omega) hcs.2⟩) (fun r2 hr2 => ?_)
    refine lv_iload hx hb dL_law_308 (lv_at hl 1 rfl) ?_
    refine lv_icmp_eq (tgt := 315) hx hb dL_law_310 (by decide) (fun c1 => ?_) (fun c1 => absurd (hr2.trans hthr) c1)
    refine lv_iload hx hb dL_law_315 (lv_at hl 1 rfl) ?_
    refine lv_if_ne (tgt := 332) hx hb dL_law_317 (by decide) (fun c2 => ?_) (fun c2 => ?_)
    · refine lv_goto (tgt := 572) hx hb dL_law_332 (by decide) ?_
      refine W.widen (k := cells + 3) (n := slots + 18) (by omega) (by omega) ?_
      exact kk u v e9 n9 m9 _ _ _ hL9 (lv_sub hl [2, 3, 4, 5, 6] rfl) hP hD hS
    · refine lv_aload_n hx hb dL_law_320 rfl (lv_at hl 6 rfl) ?_
      refine lv_iconst (v := 0) hx hb dL_law_321 (by decide) ?_
      refine va_lald hx hb hK hP 0 3 rfl rfl (by unfold vp_in; decide) dL_law_322 ?_
      refine lv_iload hx hb dL_law_323 (lv_at hl 0 rfl) ?_
      refine lv_i2l hx hb dL_law_325 rfl ?_
      refine W.lcmp hx hb dL_law_326 ?_
      refine lv_if_eq (tgt := 332) hx hb dL_law_327 (by decide) (fun _ => ?_) (fun c3 => absurd ((congrArg (fun z => lg_cmp z r1.toInt64) (hval c2)).trans (lk_cmp _)) c3)
      refine lv_goto (tgt := 572) hx hb dL_law_332 (by decide) ?_
      refine W.widen (k := cells + 3) (n := slots + 18) (by omega) (by omega) ?_
      exact kk u v e9 n9 m9 _ _ _ hL9 (lv_sub hl [2, 3, 4, 5, 6] rfl) hP hD hS
  · refine lv_aload_n hx hb dL_law_227 rfl (lv_at hl 2 rfl) ?_
    refine lv_aload_n hx hb dL_law_228 rfl (lv_at hl 1 rfl) ?_
    refine lv_iload hx hb dL_law_229 (lv_at hl 0 rfl) ?_
    refine lv_iconst (v := 1) hx hb dL_law_231 (by decide) ?_
    refine nr_iadd hx hb (a1 := i) (b1 := 1) dL_law_232 ?_
    refine nr_sld hx hb hX hbl hbA hS (j := i + 1) (by omega) hL dL_law_233 ?_
    refine lv_aload_n hx hb dL_law_234 rfl (lv_at hl 1 rfl) ?_
    refine lv_iload hx hb dL_law_235 (lv_at hl 0 rfl) ?_
    refine lv_iconst (v := 2) hx hb dL_law_237 (by decide) ?_
    refine nr_iadd hx hb (a1 := i) (b1 := 2) dL_law_238 ?_
    refine nr_sld hx hb hX hbl hbA hS (j := i + 2) (by omega) hL dL_law_239 ?_
    refine lv_aload_n hx hb dL_law_240 rfl (lv_at hl 1 rfl) ?_
    refine lv_iload hx hb dL_law_241 (lv_at hl 0 rfl) ?_
    refine lv_iconst (v := 3) hx hb dL_law_243 (by decide) ?_
    refine nr_iadd hx hb (a1 := i) (b1 := 3) dL_law_244 ?_
    refine nr_sld hx hb hX hbl hbA hS (j := i + 3) (by omega) hL dL_law_245 ?_
    refine lv_aload_n hx hb dL_law_246 rfl (lv_at hl 1 rfl) ?_
    refine lv_iload hx hb dL_law_247 (lv_at hl 0 rfl) ?_
    refine lv_iconst (v := 4) hx hb dL_law_249 (by decide) ?_
    refine nr_iadd hx hb (a1 := i) (b1 := 4) dL_law_250 ?_
    refine nr_sld hx hb hX hbl hbA hS (j := i + 4) (by omega) hL dL_law_251 ?_
    refine lv_if_eq (tgt := 259) hx hb dL_law_252 (by decide) (fun c9 => absurd c9 hz) (fun _ => ?_)
    refine lv_iconst (v := 1) hx hb dL_law_255 (by decide) ?_
    refine lv_goto (tgt := 260) hx hb dL_law_256 (by decide) ?_
    refine lv_aload_n hx hb dL_law_260 rfl (lv_at hl 4 rfl) ?_
    have hPc := hP.sub (ws' := ow q cI cZ cG cL o (h) (a) (f) (w)) [0, 1, 2, 3, 4, 5, 6, 7, 8, 9, 10, 11, 12, 13, 14, 15, 16, 17, 18, 19, 20, 21, 22, 23, 24, 25, 26, 27] rfl
    have hDc := hD.sub (ws' := ow q cI cZ cG cL o (h) (a) (f) (w)) [0, 1, 2, 3, 4, 5, 6, 7, 8, 9, 10, 11, 12, 13, 14, 15, 16, 17, 18, 19, 20, 21, 22, 23, 24, 25, 26, 27] (by decide) rfl
    have hFc := va_free (wc := ow q cI cZ cG cL o (h) (a) (f) (w)) hD hS hA [0, 1, 2, 3, 4, 5, 6, 7, 8, 9, 10, 11, 12, 13, 14, 15, 16, 17, 18, 19, 20, 21, 22, 23, 24, 25, 26, 27] rfl
    refine va_calli (vx_runSW (As := [.ref (q 0), .int (xs (i + 1)), .int (xs (i + 2)), .int (xs (i + 3)), .int (1), .ref o]) (rest := []) ⟨hx, hb, hml, hown, hbw⟩ (tL_step l dC dI q cI cZ cG cL o h a f w H.size ms (xs (i + 1)) (xs (i + 2)) (xs (i + 3)) (1) hm hf4) (vx_cwSW 6 hbw (bw_SW km_L_64 ks_yL_step ki_EventPatternsLaw kcL_step) rfl rfl rfl (by decide +kernel) ⟨Nat.le_of_ble_eq_true rfl, Nat.le_of_ble_eq_true rfl⟩) ⟨fun a U g mk q => by obtain ⟨q0, q1, qP, qK, qD, qE, qN⟩ := q; exact ⟨q0, q1, qP, va_K.moved (u := U) (U := U.calling g mk a) (Vm.Alike.refl U.vm) qK, qD, xE.same (s := U) rfl qE, xNc.moved (u := U) (U := U.calling g mk a) (Vm.Alike.refl U.vm) qN⟩, fun U hU hW => ⟨rfl, by rw [hU], by rw [hU]; exact hPc, va_K.moved hW.alike hK, hDc.weaken (fun _ _ _ _ => trivial), by rw [hU]; exact ((hE.kept hS.2.1).narrow hFc).warm hW, hNc.moved hW.alike⟩⟩ rfl rfl hl.1 rfl (lv_room (Nat.le_of_ble_eq_true rfl)) dL_law_261 ⟨Nat.le_trans (by omega) hcs.1, Nat.le_trans (by omega) hcs.2⟩) hS (fun q _ h => hFc q h) hFc (fun r0 u t H1 locs ht hvm hq1 hB hz1 hk1 hS => ?_)
    obtain ⟨hP1, hK1, hD1⟩ := hB
    rw [ht] at hP1
    obtain ⟨hP, hD⟩ := va_join (wr := mw r cI cZ (b) (g)) (w1 := ow q cI cZ cG cL o (u.2) (u.1.1) (u.1.2.1) (u.1.2.2)) hP hD [0, 1, 2, 3, 4, 5, 6, 7, 8, 9, 10, 11, 12, 13, 14, 15, 16, 17, 18, 19, 20, 21, 22, 23, 24, 25, 26, 27] [28, 29, 30, 31, 32, 33, 34, 35, 36, 37, 38] rfl rfl (by decide) (by decide) hk1 hFc hP1 hD1
    generalize H1 = H at hP hS ⊢
    refine lv_istore (lv' := [(5, .int r0), (4, .int (nI i)), (0, .ref b0), (1, .ref (q 0)), (2, .ref (r 0)), (3, .ref o)]) hx hb dL_law_264 hl (by decide) rfl (fun ls hl => ?_)
    refine lv_aload_n hx hb dL_law_266 rfl (lv_at hl 4 rfl) ?_
    refine lv_aload_n hx hb dL_law_267 rfl (lv_at hl 2 rfl) ?_
    refine lv_iload hx hb dL_law_268 (lv_at hl 1 rfl) ?_
    refine lv_iconst (v := 1) hx hb dL_law_270 (by decide) ?_
    refine nr_iadd hx hb (a1 := i) (b1 := 1) dL_law_271 ?_
    refine nr_sld hx hb hX hbl hbA hS (j := i + 1) (by omega) hL dL_law_272 ?_
    refine lv_aload_n hx hb dL_law_273 rfl (lv_at hl 2 rfl) ?_
    refine lv_iload hx hb dL_law_274 (lv_at hl 1 rfl) ?_
    refine lv_iconst (v := 2) hx hb dL_law_276 (by decide) ?_
    refine nr_iadd hx hb (a1 := i) (b1 := 2) dL_law_277 ?_
    refine nr_sld hx hb hX hbl hbA hS (j := i + 2) (by omega) hL dL_law_278 ?_
    refine lv_aload_n hx hb dL_law_279 rfl (lv_at hl 2 rfl) ?_
    refine lv_iload hx hb dL_law_280 (lv_at hl 1 rfl) ?_
    refine lv_iconst (v := 3) hx hb dL_law_282 (by decide) ?_
    refine nr_iadd hx hb (a1 := i) (b1 := 3) dL_law_283 ?_
    refine nr_sld hx hb hX hbl hbA hS (j := i + 3) (by omega) hL dL_law_284 ?_
    refine lv_aload_n hx hb dL_law_285 rfl (lv_at hl 2 rfl) ?_
    refine lv_iload hx hb dL_law_286 (lv_at hl 1 rfl) ?_
    refine lv_iconst (v := 4) hx hb dL_law_288 (by decide) ?_
    refine nr_iadd hx hb (a1 := i) (b1 := 4) dL_law_289 ?_
    refine nr_sld hx hb hX hbl hbA hS (j := i + 4) (by omega) hL dL_law_290 ?_
    refine lv_if_eq (tgt := 298) hx hb dL_law_291 (by decide) (fun c9 => absurd c9 hz) (fun _ => ?_)
    refine lv_iconst (v := 1) hx hb dL_law_294 (by decide) ?_
    refine lv_goto (tgt := 299) hx hb dL_law_295 (by decide) ?_
    have hPm := hP.sub (ws' := mw r cI cZ (b) (g)) [0, 1, 2, 3, 4, 5, 6, 7, 8, 9, 10] rfl
    have hDm := hD.sub (ws' := mw r cI cZ (b) (g)) [0, 1, 2, 3, 4, 5, 6, 7, 8, 9, 10] (by decide) rfl
    have hKm := hK.sub (tys' := xt cI cZ cG) [0, 1, 2] rfl
    have hFm := va_free (wc := mw r cI cZ (b) (g)) hD hS hA [0, 1, 2, 3, 4, 5, 6, 7, 8, 9, 10] rfl
    refine va_calli (va_runV (As := [.int (xs (i + 1)), .int (xs (i + 2)), .int (xs (i + 3)), .int (1)]) (rest := []) ⟨hx, hb, hml, hown, hbw⟩ (tM_step l dC dI r cI cZ cG b g H.size ms (xs (i + 1)) (xs (i + 2)) (xs (i + 3)) (1) hm hg4) (cwV 4 hbw (bw_V km_L_67 ki_yM_step ksel_yM_step ki_EventPatternsModel kcM_step) rfl rfl rfl (by decide +kernel) ⟨Nat.le_of_ble_eq_true rfl, Nat.le_of_ble_eq_true rfl⟩) ⟨fun a U g mk q => by obtain ⟨q0, q1, qP, qK, qD⟩ := q; exact ⟨q0, q1, qP, va_K.moved (u := U) (U := U.calling g mk a) (Vm.Alike.refl U.vm) qK, qD⟩, va_recv hK hP (ci := 1) (q0 := 0) rfl rfl, fun U hU hW => ⟨rfl, by rw [hU], by rw [hU]; exact hPm, va_K.moved hW.alike hKm, hDm.weaken (fun _ _ _ _ => trivial)⟩⟩ rfl rfl hl.1 rfl (lv_room (Nat.le_of_ble_eq_true rfl)) dL_law_299 ⟨Nat.le_trans (by omega) hcs.1, Nat.le_trans (by omega) hcs.2⟩) hS (fun q _ h => hFm q h) hFm (fun r1 v t H1 locs ht hvm hq2 hB hz2 hk2 hS => ?_)
    obtain ⟨hP2, hK2, hD2⟩ := hB
    rw [ht] at hP2
    obtain ⟨hP, hD⟩ := va_join (wr := ow q cI cZ cG cL o (u.2) (u.1.1) (u.1.2.1) (u.1.2.2)) (w1 := mw r cI cZ (v.1) (v.2)) hP hD [0, 1, 2, 3, 4, 5, 6, 7, 8, 9, 10] [11, 12, 13, 14, 15, 16, 17, 18, 19, 20, 21, 22, 23, 24, 25, 26, 27, 28, 29, 30, 31, 32, 33, 34, 35, 36, 37, 38] rfl rfl (by decide) (by decide) hk2 hFm hP2 hD2
    generalize H1 = H at hP hS ⊢
    obtain ⟨hthr, hval, e9, n9, m9, hL9⟩ := ly_step hLn hq1 hq2
    refine lv_istore (lv' := [(6, .int r1), (5, .int r0), (4, .int (nI i)), (0, .ref b0), (1, .ref (q 0)), (2, .ref (r 0)), (3, .ref o)]) hx hb dL_law_302 hl (by decide) rfl (fun ls hl => ?_)
    refine lv_aload_n hx hb dL_law_304 rfl (lv_at hl 5 rfl) ?_
    have hPt := hP.sub (ws' := mw r cI cZ (v.1) (v.2)) [28, 29, 30, 31, 32, 33, 34, 35, 36, 37, 38] rfl
    refine vp_callSi (W.runV (As := []) (rest := []) ⟨hx, hb, hml, hown, hbw⟩ (tM_thrown l dC dI r cI cZ cG v.1 v.2) (cwV 0 hbw (bw_V km_L_53 ki_yM_thrown ksel_yM_thrown ki_EventPatternsModel kcM_thrown) rfl rfl rfl (by decide +kernel) ⟨Nat.le_of_ble_eq_true rfl, Nat.le_of_ble_eq_true rfl⟩) ⟨fun a U g mk q => by obtain ⟨q0, qP, qK⟩ := q; exact ⟨q0, qP, va_K.moved (u := U) (U := U.calling g mk a) (Vm.Alike.refl U.vm) qK⟩, va_recv hK hP (ci := 1) (q0 := 28) rfl rfl, fun U hU hW => ⟨rfl, by rw [hU]; exact hPt, va_K.moved hW.alike hKm⟩⟩ rfl rfl hl.1 rfl (lv_room (Nat.le_of_ble_eq_true rfl)) dL_law_305 ⟨Nat.le_trans (by omega) hcs.1, Nat.le_trans (by omega) hcs.2⟩) (fun r2 hr2 => ?_)
    refine lv_iload hx hb dL_law_308 (lv_at hl 1 rfl) ?_
    refine lv_icmp_eq (tgt := 315) hx hb dL_law_310 (by decide) (fun c1 => ?_) (fun c1 => absurd (hr2.trans hthr) c1)
    refine lv_iload hx hb dL_law_315 (lv_at hl 1 rfl) ?_
    refine lv_if_ne (tgt := 332) hx hb dL_law_317 (by decide) (fun c2 => ?_) (fun c2 => ?_)
    · refine lv_goto (tgt := 572) hx hb dL_law_332 (by decide) ?_
      refine W.widen (k := cells + 3) (n := slots + 18) (by omega) (by omega) ?_
      exact kk u v e9 n9 m9 _ _ _ hL9 (lv_sub hl [2, 3, 4, 5, 6] rfl) hP hD hS
    · refine lv_aload_n hx hb dL_law_320 rfl (lv_at hl 6 rfl) ?_
      refine lv_iconst (v := 0) hx hb dL_law_321 (by decide) ?_
      refine va_lald hx hb hK hP 0 3 rfl rfl (by unfold vp_in; decide) dL_law_322 ?_
      refine lv_iload hx hb dL_law_323 (lv_at hl 0 rfl) ?_
      refine lv_i2l hx hb dL_law_325 rfl ?_
      refine W.lcmp hx hb dL_law_326 ?_
      refine lv_if_eq (tgt := 332) hx hb dL_law_327 (by decide) (fun _ => ?_) (fun c3 => absurd ((congrArg (fun z => lg_cmp z r1.toInt64) (hval c2)).trans (lk_cmp _)) c3)
      refine lv_goto (tgt := 572) hx hb dL_law_332 (by decide) ?_
      refine W.widen (k := cells + 3) (n := slots + 18) (by omega) (by omega) ?_
      exact kk u v e9 n9 m9 _ _ _ hL9 (lv_sub hl [2, 3, 4, 5, 6] rfl) hP hD hS
set_option maxHeartbeats 4000000 in
set_option maxRecDepth 100000 in
/-- the law's case of count -/
theorem lL_count (l : Launch) (dC : Nat → ClassId) (dI : Nat → Nat → Nat) (q r : Nat → Nat) (cI cZ cG cL : ClassId) (o : Nat) {p : Program} {e : Env} {s : State} {m : MethodId} {args : Array Value} {below : List Frame} {meth : Method} {c : Code} {Q : State → Prop} {A : Nat → Prop} {cells slots : Nat} {b0 L : Nat} {xs : Nat → Int32} (hL : L < 2 ^ 30) (hcs : cells + 3 ≤ room_1.cells ∧ slots + 18 ≤ room_1.slots) (hx : p.tables.exec = Jvm.exec) (hb : c.code = cL_law) (hml : c.maxLocals = 7) (hown : s.vm.findClass "EventPatternsLaw" = some m.cls) (hbw : ∀ w ∈ bw, w.before args s = true) (hK : va_K (dC, dI) cls2 (ot cI cZ cG cL) s) (hA : ∀ q : Nat, s.heap.size ≤ q → A q) (hX : va_X b0 L xs s s.heap) (hbl : b0 < s.heap.size) (hbA : ¬ A b0) (hE : xE l A s s.heap) (hNc : xNc s)
    (i : Nat) (hi : i + 5 ≤ L) (h : Nat → Int64) (a : Nat → Nat → Int32) (f : Nat → Int32) (w : Nat → Nat → Int32) (b : Nat → Nat → Int32) (g : Nat → Int32) (ev n ms : Nat) (hLn : Ln a f b g ev n ms) (H : Heap) (locs : List Loc) (ls : Array Slot) (hl : lv_has ls 7 [(4, .int (nI i)), (0, .ref b0), (1, .ref (q 0)), (2, .ref (r 0)), (3, .ref o)]) (hP : va_P (dC, dI) cls2 (lW q r cI cZ cG cL o h a f w b g) H) (hD : va_D A (lW q r cI cZ cG cL o h a f w b g)) (hS : va_S A s.heap H locs)
    (kk : ∀ (u : XS × (Nat → Int64)) (v : MS) (ev n ms : Nat) (H : Heap) (locs : List Loc) (ls : Array Slot), Ln u.1.1 u.1.2.1 v.1 v.2 ev n ms → lv_has ls 7 [(4, .int (nI i)), (0, .ref b0), (1, .ref (q 0)), (2, .ref (r 0)), (3, .ref o)] → va_P (dC, dI) cls2 (lW q r cI cZ cG cL o u.2 u.1.1 u.1.2.1 u.1.2.2 v.1 v.2) H → va_D A (lW q r cI cZ cG cL o u.2 u.1.1 u.1.2.1 u.1.2.2 v.1 v.2) → va_S A s.heap H locs → W p l e room_1 s m args below meth c H locs (cells + 3) (slots + 18) Q (F0 m 572 ls [])) :
    W p l e room_1 s m args below meth c H locs cells slots Q (F0 m 335 ls []) := by
  obtain ⟨hAg, hev, hf0, hf1, hf4, hg1, hg4⟩ := id hLn
  obtain ⟨hn, hnev, hdf, hm, hsy⟩ := hLn.lo
  refine lv_aload_n hx hb dL_law_335 rfl (lv_at hl 2 rfl) ?_
  refine lv_aload_n hx hb dL_law_336 rfl (lv_at hl 4 rfl) ?_
  have hPc := hP.sub (ws' := ow q cI cZ cG cL o (h) (a) (f) (w)) [0, 1, 2, 3, 4, 5, 6, 7, 8, 9, 10, 11, 12, 13, 14, 15, 16, 17, 18, 19, 20, 21, 22, 23, 24, 25, 26, 27] rfl
  have hDc := hD.sub (ws' := ow q cI cZ cG cL o (h) (a) (f) (w)) [0, 1, 2, 3, 4, 5, 6, 7, 8, 9, 10, 11, 12, 13, 14, 15, 16, 17, 18, 19, 20, 21, 22, 23, 24, 25, 26, 27] (by decide) rfl
  have hFc := va_free (wc := ow q cI cZ cG cL o (h) (a) (f) (w)) hD hS hA [0, 1, 2, 3, 4, 5, 6, 7, 8, 9, 10, 11, 12, 13, 14, 15, 16, 17, 18, 19, 20, 21, 22, 23, 24, 25, 26, 27] rfl
  refine va_calli (vx_runSW (As := [.ref (q 0), .ref o]) (rest := []) ⟨hx, hb, hml, hown, hbw⟩ (tL_count l dC dI q cI cZ cG cL o h a f w H.size n ms hn hf1 hm hf4) (vx_cwSW 2 hbw (bw_SW km_L_68 ks_yL_count ki_EventPatternsLaw kcL_count) rfl rfl rfl (by decide +kernel) ⟨Nat.le_of_ble_eq_true rfl, Nat.le_of_ble_eq_true rfl⟩) ⟨fun a U g mk q => by obtain ⟨q0, q1, qP, qK, qD, qE, qN⟩ := q; exact ⟨q0, q1, qP, va_K.moved (u := U) (U := U.calling g mk a) (Vm.Alike.refl U.vm) qK, qD, xE.same (s := U) rfl qE, xNc.moved (u := U) (U := U.calling g mk a) (Vm.Alike.refl U.vm) qN⟩, fun U hU hW => ⟨rfl, by rw [hU], by rw [hU]; exact hPc, va_K.moved hW.alike hK, hDc.weaken (fun _ _ _ _ => trivial), by rw [hU]; exact ((hE.kept hS.2.1).narrow hFc).warm hW, hNc.moved hW.alike⟩⟩ rfl rfl hl.1 rfl (lv_room (Nat.le_of_ble_eq_true rfl)) dL_law_337 ⟨Nat.le_trans (by omega) hcs.1, Nat.le_trans (by omega) hcs.2⟩) hS (fun q _ h => hFc q h) hFc (fun r0 u t H1 locs ht hvm hq1 hB hz1 hk1 hS => ?_)
  obtain ⟨hP1, hK1, hD1⟩ := hB
  rw [ht] at hP1
  obtain ⟨hP, hD⟩ := va_join (wr := mw r cI cZ (b) (g)) (w1 := ow q cI cZ cG cL o (u.2) (u.1.1) (u.1.2.1) (u.1.2.2)) hP hD [0, 1, 2, 3, 4, 5, 6, 7, 8, 9, 10, 11, 12, 13, 14, 15, 16, 17, 18, 19, 20, 21, 22, 23, 24, 25, 26, 27] [28, 29, 30, 31, 32, 33, 34, 35, 36, 37, 38] rfl rfl (by decide) (by decide) hk1 hFc hP1 hD1
  generalize H1 = H at hP hS ⊢
  refine lv_istore (lv' := [(5, .int r0), (4, .int (nI i)), (0, .ref b0), (1, .ref (q 0)), (2, .ref (r 0)), (3, .ref o)]) hx hb dL_law_340 hl (by decide) rfl (fun ls hl => ?_)
  refine lv_aload_n hx hb dL_law_342 rfl (lv_at hl 4 rfl) ?_
  have hPm := hP.sub (ws' := mw r cI cZ (b) (g)) [0, 1, 2, 3, 4, 5, 6, 7, 8, 9, 10] rfl
  have hDm := hD.sub (ws' := mw r cI cZ (b) (g)) [0, 1, 2, 3, 4, 5, 6, 7, 8, 9, 10] (by decide) rfl
  have hKm := hK.sub (tys' := xt cI cZ cG) [0, 1, 2] rfl
  have hFm := va_free (wc := mw r cI cZ (b) (g)) hD hS hA [0, 1, 2, 3, 4, 5, 6, 7, 8, 9, 10] rfl
  refine va_calli (va_runV (As := []) (rest := []) ⟨hx, hb, hml, hown, hbw⟩ (tM_count l dC dI r cI cZ cG b g H.size ev ms hev hg1 hm hg4) (cwV 0 hbw (bw_V km_L_71 ki_yM_count ksel_yM_count ki_EventPatternsModel kcM_count) rfl rfl rfl (by decide +kernel) ⟨Nat.le_of_ble_eq_true rfl, Nat.le_of_ble_eq_true rfl⟩) ⟨fun a U g mk q => by obtain ⟨q0, q1, qP, qK, qD⟩ := q; exact ⟨q0, q1, qP, va_K.moved (u := U) (U := U.calling g mk a) (Vm.Alike.refl U.vm) qK, qD⟩, va_recv hK hP (ci := 1) (q0 := 0) rfl rfl, fun U hU hW => ⟨rfl, by rw [hU], by rw [hU]; exact hPm, va_K.moved hW.alike hKm, hDm.weaken (fun _ _ _ _ => trivial)⟩⟩ rfl rfl hl.1 rfl (lv_room (Nat.le_of_ble_eq_true rfl)) dL_law_343 ⟨Nat.le_trans (by omega) hcs.1, Nat.le_trans (by omega) hcs.2⟩) hS (fun q _ h => hFm q h) hFm (fun r1 v t H1 locs ht hvm hq2 hB hz2 hk2 hS => ?_)
  obtain ⟨hP2, hK2, hD2⟩ := hB
  rw [ht] at hP2
  obtain ⟨hP, hD⟩ := va_join (wr := ow q cI cZ cG cL o (u.2) (u.1.1) (u.1.2.1) (u.1.2.2)) (w1 := mw r cI cZ (v.1) (v.2)) hP hD [0, 1, 2, 3, 4, 5, 6, 7, 8, 9, 10] [11, 12, 13, 14, 15, 16, 17, 18, 19, 20, 21, 22, 23, 24, 25, 26, 27, 28, 29, 30, 31, 32, 33, 34, 35, 36, 37, 38] rfl rfl (by decide) (by decide) hk2 hFm hP2 hD2
  generalize H1 = H at hP hS ⊢
  obtain ⟨hthr, hval, e9, n9, m9, hL9⟩ := ly_count hLn false 0 (lk_lo0 hLn) hq1 hq2
  refine lv_istore (lv' := [(6, .int r1), (5, .int r0), (4, .int (nI i)), (0, .ref b0), (1, .ref (q 0)), (2, .ref (r 0)), (3, .ref o)]) hx hb dL_law_346 hl (by decide) rfl (fun ls hl => ?_)
  refine lv_aload_n hx hb dL_law_348 rfl (lv_at hl 5 rfl) ?_
  have hPt := hP.sub (ws' := mw r cI cZ (v.1) (v.2)) [28, 29, 30, 31, 32, 33, 34, 35, 36, 37, 38] rfl
  refine vp_callSi (W.runV (As := []) (rest := []) ⟨hx, hb, hml, hown, hbw⟩ (tM_thrown l dC dI r cI cZ cG v.1 v.2) (cwV 0 hbw (bw_V km_L_53 ki_yM_thrown ksel_yM_thrown ki_EventPatternsModel kcM_thrown) rfl rfl rfl (by decide +kernel) ⟨Nat.le_of_ble_eq_true rfl, Nat.le_of_ble_eq_true rfl⟩) ⟨fun a U g mk q => by obtain ⟨q0, qP, qK⟩ := q; exact ⟨q0, qP, va_K.moved (u := U) (U := U.calling g mk a) (Vm.Alike.refl U.vm) qK⟩, va_recv hK hP (ci := 1) (q0 := 28) rfl rfl, fun U hU hW => ⟨rfl, by rw [hU]; exact hPt, va_K.moved hW.alike hKm⟩⟩ rfl rfl hl.1 rfl (lv_room (Nat.le_of_ble_eq_true rfl)) dL_law_349 ⟨Nat.le_trans (by omega) hcs.1, Nat.le_trans (by omega) hcs.2⟩) (fun r2 hr2 => ?_)
  refine lv_iload hx hb dL_law_352 (lv_at hl 1 rfl) ?_
  refine lv_icmp_eq (tgt := 359) hx hb dL_law_354 (by decide) (fun c1 => ?_) (fun c1 => absurd (hr2.trans hthr) c1)
  refine lv_iload hx hb dL_law_359 (lv_at hl 1 rfl) ?_
  refine lv_if_ne (tgt := 376) hx hb dL_law_361 (by decide) (fun c2 => ?_) (fun c2 => ?_)
  · refine lv_goto (tgt := 572) hx hb dL_law_376 (by decide) ?_
    refine W.widen (k := cells + 3) (n := slots + 18) (by omega) (by omega) ?_
    exact kk u v e9 n9 m9 _ _ _ hL9 (lv_sub hl [2, 3, 4, 5, 6] rfl) hP hD hS
  · refine lv_aload_n hx hb dL_law_364 rfl (lv_at hl 6 rfl) ?_
    refine lv_iconst (v := 0) hx hb dL_law_365 (by decide) ?_
    refine va_lald hx hb hK hP 0 3 rfl rfl (by unfold vp_in; decide) dL_law_366 ?_
    refine lv_iload hx hb dL_law_367 (lv_at hl 0 rfl) ?_
    refine lv_i2l hx hb dL_law_369 rfl ?_
    refine W.lcmp hx hb dL_law_370 ?_
    refine lv_if_eq (tgt := 376) hx hb dL_law_371 (by decide) (fun _ => ?_) (fun c3 => absurd ((congrArg (fun z => lg_cmp z r1.toInt64) (hval c2)).trans (lk_cmp _)) c3)
    refine lv_goto (tgt := 572) hx hb dL_law_376 (by decide) ?_
    refine W.widen (k := cells + 3) (n := slots + 18) (by omega) (by omega) ?_
    exact kk u v e9 n9 m9 _ _ _ hL9 (lv_sub hl [2, 3, 4, 5, 6] rfl) hP hD hS
set_option maxHeartbeats 4000000 in
set_option maxRecDepth 100000 in
/-- the law's case of latest -/
theorem lL_latest (l : Launch) (dC : Nat → ClassId) (dI : Nat → Nat → Nat) (q r : Nat → Nat) (cI cZ cG cL : ClassId) (o : Nat) {p : Program} {e : Env} {s : State} {m : MethodId} {args : Array Value} {below : List Frame} {meth : Method} {c : Code} {Q : State → Prop} {A : Nat → Prop} {cells slots : Nat} {b0 L : Nat} {xs : Nat → Int32} (hL : L < 2 ^ 30) (hcs : cells + 3 ≤ room_1.cells ∧ slots + 18 ≤ room_1.slots) (hx : p.tables.exec = Jvm.exec) (hb : c.code = cL_law) (hml : c.maxLocals = 7) (hown : s.vm.findClass "EventPatternsLaw" = some m.cls) (hbw : ∀ w ∈ bw, w.before args s = true) (hK : va_K (dC, dI) cls2 (ot cI cZ cG cL) s) (hA : ∀ q : Nat, s.heap.size ≤ q → A q) (hX : va_X b0 L xs s s.heap) (hbl : b0 < s.heap.size) (hbA : ¬ A b0) (hE : xE l A s s.heap) (hNc : xNc s)
    (i : Nat) (hi : i + 5 ≤ L) (h : Nat → Int64) (a : Nat → Nat → Int32) (f : Nat → Int32) (w : Nat → Nat → Int32) (b : Nat → Nat → Int32) (g : Nat → Int32) (ev n ms : Nat) (hLn : Ln a f b g ev n ms) (H : Heap) (locs : List Loc) (ls : Array Slot) (hl : lv_has ls 7 [(4, .int (nI i)), (0, .ref b0), (1, .ref (q 0)), (2, .ref (r 0)), (3, .ref o)]) (hP : va_P (dC, dI) cls2 (lW q r cI cZ cG cL o h a f w b g) H) (hD : va_D A (lW q r cI cZ cG cL o h a f w b g)) (hS : va_S A s.heap H locs)
    (kk : ∀ (u : XS × (Nat → Int64)) (v : MS) (ev n ms : Nat) (H : Heap) (locs : List Loc) (ls : Array Slot), Ln u.1.1 u.1.2.1 v.1 v.2 ev n ms → lv_has ls 7 [(4, .int (nI i)), (0, .ref b0), (1, .ref (q 0)), (2, .ref (r 0)), (3, .ref o)] → va_P (dC, dI) cls2 (lW q r cI cZ cG cL o u.2 u.1.1 u.1.2.1 u.1.2.2 v.1 v.2) H → va_D A (lW q r cI cZ cG cL o u.2 u.1.1 u.1.2.1 u.1.2.2 v.1 v.2) → va_S A s.heap H locs → W p l e room_1 s m args below meth c H locs (cells + 3) (slots + 18) Q (F0 m 572 ls [])) :
    W p l e room_1 s m args below meth c H locs cells slots Q (F0 m 379 ls []) := by
  obtain ⟨hAg, hev, hf0, hf1, hf4, hg1, hg4⟩ := id hLn
  obtain ⟨hn, hnev, hdf, hm, hsy⟩ := hLn.lo
  refine lv_aload_n hx hb dL_law_379 rfl (lv_at hl 2 rfl) ?_
  refine lv_aload_n hx hb dL_law_380 rfl (lv_at hl 4 rfl) ?_
  have hPc := hP.sub (ws' := ow q cI cZ cG cL o (h) (a) (f) (w)) [0, 1, 2, 3, 4, 5, 6, 7, 8, 9, 10, 11, 12, 13, 14, 15, 16, 17, 18, 19, 20, 21, 22, 23, 24, 25, 26, 27] rfl
  have hDc := hD.sub (ws' := ow q cI cZ cG cL o (h) (a) (f) (w)) [0, 1, 2, 3, 4, 5, 6, 7, 8, 9, 10, 11, 12, 13, 14, 15, 16, 17, 18, 19, 20, 21, 22, 23, 24, 25, 26, 27] (by decide) rfl
  have hFc := va_free (wc := ow q cI cZ cG cL o (h) (a) (f) (w)) hD hS hA [0, 1, 2, 3, 4, 5, 6, 7, 8, 9, 10, 11, 12, 13, 14, 15, 16, 17, 18, 19, 20, 21, 22, 23, 24, 25, 26, 27] rfl
  refine va_calli (vx_runSW (As := [.ref (q 0), .ref o]) (rest := []) ⟨hx, hb, hml, hown, hbw⟩ (tL_latest l dC dI q cI cZ cG cL o h a f w H.size n ms hn hf1 hm hf4) (vx_cwSW 2 hbw (bw_SW km_L_72 ks_yL_latest ki_EventPatternsLaw kcL_latest) rfl rfl rfl (by decide +kernel) ⟨Nat.le_of_ble_eq_true rfl, Nat.le_of_ble_eq_true rfl⟩) ⟨fun a U g mk q => by obtain ⟨q0, q1, qP, qK, qD, qE, qN⟩ := q; exact ⟨q0, q1, qP, va_K.moved (u := U) (U := U.calling g mk a) (Vm.Alike.refl U.vm) qK, qD, xE.same (s := U) rfl qE, xNc.moved (u := U) (U := U.calling g mk a) (Vm.Alike.refl U.vm) qN⟩, fun U hU hW => ⟨rfl, by rw [hU], by rw [hU]; exact hPc, va_K.moved hW.alike hK, hDc.weaken (fun _ _ _ _ => trivial), by rw [hU]; exact ((hE.kept hS.2.1).narrow hFc).warm hW, hNc.moved hW.alike⟩⟩ rfl rfl hl.1 rfl (lv_room (Nat.le_of_ble_eq_true rfl)) dL_law_381 ⟨Nat.le_trans (by omega) hcs.1, Nat.le_trans (by omega) hcs.2⟩) hS (fun q _ h => hFc q h) hFc (fun r0 u t H1 locs ht hvm hq1 hB hz1 hk1 hS => ?_)
  obtain ⟨hP1, hK1, hD1⟩ := hB
  rw [ht] at hP1
  obtain ⟨hP, hD⟩ := va_join (wr := mw r cI cZ (b) (g)) (w1 := ow q cI cZ cG cL o (u.2) (u.1.1) (u.1.2.1) (u.1.2.2)) hP hD [0, 1, 2, 3, 4, 5, 6, 7, 8, 9, 10, 11, 12, 13, 14, 15, 16, 17, 18, 19, 20, 21, 22, 23, 24, 25, 26, 27] [28, 29, 30, 31, 32, 33, 34, 35, 36, 37, 38] rfl rfl (by decide) (by decide) hk1 hFc hP1 hD1
  generalize H1 = H at hP hS ⊢
  refine lv_istore (lv' := [(5, .int r0), (4, .int (nI i)), (0, .ref b0), (1, .ref (q 0)), (2, .ref (r 0)), (3, .ref o)]) hx hb dL_law_384 hl (by decide) rfl (fun ls hl => ?_)
  refine lv_aload_n hx hb dL_law_386 rfl (lv_at hl 4 rfl) ?_
  have hPm := hP.sub (ws' := mw r cI cZ (b) (g)) [0, 1, 2, 3, 4, 5, 6, 7, 8, 9, 10] rfl
  have hDm := hD.sub (ws' := mw r cI cZ (b) (g)) [0, 1, 2, 3, 4, 5, 6, 7, 8, 9, 10] (by decide) rfl
  have hKm := hK.sub (tys' := xt cI cZ cG) [0, 1, 2] rfl
  have hFm := va_free (wc := mw r cI cZ (b) (g)) hD hS hA [0, 1, 2, 3, 4, 5, 6, 7, 8, 9, 10] rfl
  refine va_calli (va_runV (As := []) (rest := []) ⟨hx, hb, hml, hown, hbw⟩ (tM_latest l dC dI r cI cZ cG b g H.size ev ms hev hg1 hm hg4) (cwV 0 hbw (bw_V km_L_74 ki_yM_latest ksel_yM_latest ki_EventPatternsModel kcM_latest) rfl rfl rfl (by decide +kernel) ⟨Nat.le_of_ble_eq_true rfl, Nat.le_of_ble_eq_true rfl⟩) ⟨fun a U g mk q => by obtain ⟨q0, q1, qP, qK, qD⟩ := q; exact ⟨q0, q1, qP, va_K.moved (u := U) (U := U.calling g mk a) (Vm.Alike.refl U.vm) qK, qD⟩, va_recv hK hP (ci := 1) (q0 := 0) rfl rfl, fun U hU hW => ⟨rfl, by rw [hU], by rw [hU]; exact hPm, va_K.moved hW.alike hKm, hDm.weaken (fun _ _ _ _ => trivial)⟩⟩ rfl rfl hl.1 rfl (lv_room (Nat.le_of_ble_eq_true rfl)) dL_law_387 ⟨Nat.le_trans (by omega) hcs.1, Nat.le_trans (by omega) hcs.2⟩) hS (fun q _ h => hFm q h) hFm (fun r1 v t H1 locs ht hvm hq2 hB hz2 hk2 hS => ?_)
  obtain ⟨hP2, hK2, hD2⟩ := hB
  rw [ht] at hP2
  obtain ⟨hP, hD⟩ := va_join (wr := ow q cI cZ cG cL o (u.2) (u.1.1) (u.1.2.1) (u.1.2.2)) (w1 := mw r cI cZ (v.1) (v.2)) hP hD [0, 1, 2, 3, 4, 5, 6, 7, 8, 9, 10] [11, 12, 13, 14, 15, 16, 17, 18, 19, 20, 21, 22, 23, 24, 25, 26, 27, 28, 29, 30, 31, 32, 33, 34, 35, 36, 37, 38] rfl rfl (by decide) (by decide) hk2 hFm hP2 hD2
  generalize H1 = H at hP hS ⊢
  obtain ⟨hthr, hval, e9, n9, m9, hL9⟩ := ly_count hLn true (nI n - 1) (lk_lo1 hLn) hq1 hq2
  refine lv_istore (lv' := [(6, .int r1), (5, .int r0), (4, .int (nI i)), (0, .ref b0), (1, .ref (q 0)), (2, .ref (r 0)), (3, .ref o)]) hx hb dL_law_390 hl (by decide) rfl (fun ls hl => ?_)
  refine lv_aload_n hx hb dL_law_392 rfl (lv_at hl 5 rfl) ?_
  have hPt := hP.sub (ws' := mw r cI cZ (v.1) (v.2)) [28, 29, 30, 31, 32, 33, 34, 35, 36, 37, 38] rfl
  refine vp_callSi (W.runV (As := []) (rest := []) ⟨hx, hb, hml, hown, hbw⟩ (tM_thrown l dC dI r cI cZ cG v.1 v.2) (cwV 0 hbw (bw_V km_L_53 ki_yM_thrown ksel_yM_thrown ki_EventPatternsModel kcM_thrown) rfl rfl rfl (by decide +kernel) ⟨Nat.le_of_ble_eq_true rfl, Nat.le_of_ble_eq_true rfl⟩) ⟨fun a U g mk q => by obtain ⟨q0, qP, qK⟩ := q; exact ⟨q0, qP, va_K.moved (u := U) (U := U.calling g mk a) (Vm.Alike.refl U.vm) qK⟩, va_recv hK hP (ci := 1) (q0 := 28) rfl rfl, fun U hU hW => ⟨rfl, by rw [hU]; exact hPt, va_K.moved hW.alike hKm⟩⟩ rfl rfl hl.1 rfl (lv_room (Nat.le_of_ble_eq_true rfl)) dL_law_393 ⟨Nat.le_trans (by omega) hcs.1, Nat.le_trans (by omega) hcs.2⟩) (fun r2 hr2 => ?_)
  refine lv_iload hx hb dL_law_396 (lv_at hl 1 rfl) ?_
  refine lv_icmp_eq (tgt := 403) hx hb dL_law_398 (by decide) (fun c1 => ?_) (fun c1 => absurd (hr2.trans hthr) c1)
  refine lv_iload hx hb dL_law_403 (lv_at hl 1 rfl) ?_
  refine lv_if_ne (tgt := 420) hx hb dL_law_405 (by decide) (fun c2 => ?_) (fun c2 => ?_)
  · refine lv_goto (tgt := 572) hx hb dL_law_420 (by decide) ?_
    refine W.widen (k := cells + 3) (n := slots + 18) (by omega) (by omega) ?_
    exact kk u v e9 n9 m9 _ _ _ hL9 (lv_sub hl [2, 3, 4, 5, 6] rfl) hP hD hS
  · refine lv_aload_n hx hb dL_law_408 rfl (lv_at hl 6 rfl) ?_
    refine lv_iconst (v := 0) hx hb dL_law_409 (by decide) ?_
    refine va_lald hx hb hK hP 0 3 rfl rfl (by unfold vp_in; decide) dL_law_410 ?_
    refine lv_iload hx hb dL_law_411 (lv_at hl 0 rfl) ?_
    refine lv_i2l hx hb dL_law_413 rfl ?_
    refine W.lcmp hx hb dL_law_414 ?_
    refine lv_if_eq (tgt := 420) hx hb dL_law_415 (by decide) (fun _ => ?_) (fun c3 => absurd ((congrArg (fun z => lg_cmp z r1.toInt64) (hval c2)).trans (lk_cmp _)) c3)
    refine lv_goto (tgt := 572) hx hb dL_law_420 (by decide) ?_
    refine W.widen (k := cells + 3) (n := slots + 18) (by omega) (by omega) ?_
    exact kk u v e9 n9 m9 _ _ _ hL9 (lv_sub hl [2, 3, 4, 5, 6] rfl) hP hD hS
set_option maxHeartbeats 4000000 in
set_option maxRecDepth 100000 in
/-- the law's case of length -/
theorem lL_length (l : Launch) (dC : Nat → ClassId) (dI : Nat → Nat → Nat) (q r : Nat → Nat) (cI cZ cG cL : ClassId) (o : Nat) {p : Program} {e : Env} {s : State} {m : MethodId} {args : Array Value} {below : List Frame} {meth : Method} {c : Code} {Q : State → Prop} {A : Nat → Prop} {cells slots : Nat} {b0 L : Nat} {xs : Nat → Int32} (hL : L < 2 ^ 30) (hcs : cells + 3 ≤ room_1.cells ∧ slots + 18 ≤ room_1.slots) (hx : p.tables.exec = Jvm.exec) (hb : c.code = cL_law) (hml : c.maxLocals = 7) (hown : s.vm.findClass "EventPatternsLaw" = some m.cls) (hbw : ∀ w ∈ bw, w.before args s = true) (hK : va_K (dC, dI) cls2 (ot cI cZ cG cL) s) (hA : ∀ q : Nat, s.heap.size ≤ q → A q) (hX : va_X b0 L xs s s.heap) (hbl : b0 < s.heap.size) (hbA : ¬ A b0) (hE : xE l A s s.heap) (hNc : xNc s)
    (i : Nat) (hi : i + 5 ≤ L) (h : Nat → Int64) (a : Nat → Nat → Int32) (f : Nat → Int32) (w : Nat → Nat → Int32) (b : Nat → Nat → Int32) (g : Nat → Int32) (ev n ms : Nat) (hLn : Ln a f b g ev n ms) (H : Heap) (locs : List Loc) (ls : Array Slot) (hl : lv_has ls 7 [(4, .int (nI i)), (0, .ref b0), (1, .ref (q 0)), (2, .ref (r 0)), (3, .ref o)]) (hP : va_P (dC, dI) cls2 (lW q r cI cZ cG cL o h a f w b g) H) (hD : va_D A (lW q r cI cZ cG cL o h a f w b g)) (hS : va_S A s.heap H locs)
    (kk : ∀ (u : XS × (Nat → Int64)) (v : MS) (ev n ms : Nat) (H : Heap) (locs : List Loc) (ls : Array Slot), Ln u.1.1 u.1.2.1 v.1 v.2 ev n ms → lv_has ls 7 [(4, .int (nI i)), (0, .ref b0), (1, .ref (q 0)), (2, .ref (r 0)), (3, .ref o)] → va_P (dC, dI) cls2 (lW q r cI cZ cG cL o u.2 u.1.1 u.1.2.1 u.1.2.2 v.1 v.2) H → va_D A (lW q r cI cZ cG cL o u.2 u.1.1 u.1.2.1 u.1.2.2 v.1 v.2) → va_S A s.heap H locs → W p l e room_1 s m args below meth c H locs (cells + 3) (slots + 18) Q (F0 m 572 ls [])) :
    W p l e room_1 s m args below meth c H locs cells slots Q (F0 m 423 ls []) := by
  obtain ⟨hAg, hev, hf0, hf1, hf4, hg1, hg4⟩ := id hLn
  obtain ⟨hn, hnev, hdf, hm, hsy⟩ := hLn.lo
  refine lv_aload_n hx hb dL_law_423 rfl (lv_at hl 2 rfl) ?_
  refine lv_aload_n hx hb dL_law_424 rfl (lv_at hl 1 rfl) ?_
  refine lv_iload hx hb dL_law_425 (lv_at hl 0 rfl) ?_
  refine lv_iconst (v := 1) hx hb dL_law_427 (by decide) ?_
  refine nr_iadd hx hb (a1 := i) (b1 := 1) dL_law_428 ?_
  refine nr_sld hx hb hX hbl hbA hS (j := i + 1) (by omega) hL dL_law_429 ?_
  refine lv_aload_n hx hb dL_law_430 rfl (lv_at hl 4 rfl) ?_
  have hPc := hP.sub (ws' := ow q cI cZ cG cL o (h) (a) (f) (w)) [0, 1, 2, 3, 4, 5, 6, 7, 8, 9, 10, 11, 12, 13, 14, 15, 16, 17, 18, 19, 20, 21, 22, 23, 24, 25, 26, 27] rfl
  have hDc := hD.sub (ws' := ow q cI cZ cG cL o (h) (a) (f) (w)) [0, 1, 2, 3, 4, 5, 6, 7, 8, 9, 10, 11, 12, 13, 14, 15, 16, 17, 18, 19, 20, 21, 22, 23, 24, 25, 26, 27] (by decide) rfl
  have hFc := va_free (wc := ow q cI cZ cG cL o (h) (a) (f) (w)) hD hS hA [0, 1, 2, 3, 4, 5, 6, 7, 8, 9, 10, 11, 12, 13, 14, 15, 16, 17, 18, 19, 20, 21, 22, 23, 24, 25, 26, 27] rfl
  refine va_calli (vx_runSW (As := [.ref (q 0), .int (xs (i + 1)), .ref o]) (rest := []) ⟨hx, hb, hml, hown, hbw⟩ (tL_length l dC dI q cI cZ cG cL o h a f w H.size n ms (xs (i + 1)) hn hf1 hm hf4) (vx_cwSW 3 hbw (bw_SW km_L_75 ks_yL_length ki_EventPatternsLaw kcL_length) rfl rfl rfl (by decide +kernel) ⟨Nat.le_of_ble_eq_true rfl, Nat.le_of_ble_eq_true rfl⟩) ⟨fun a U g mk q => by obtain ⟨q0, q1, qP, qK, qD, qE, qN⟩ := q; exact ⟨q0, q1, qP, va_K.moved (u := U) (U := U.calling g mk a) (Vm.Alike.refl U.vm) qK, qD, xE.same (s := U) rfl qE, xNc.moved (u := U) (U := U.calling g mk a) (Vm.Alike.refl U.vm) qN⟩, fun U hU hW => ⟨rfl, by rw [hU], by rw [hU]; exact hPc, va_K.moved hW.alike hK, hDc.weaken (fun _ _ _ _ => trivial), by rw [hU]; exact ((hE.kept hS.2.1).narrow hFc).warm hW, hNc.moved hW.alike⟩⟩ rfl rfl hl.1 rfl (lv_room (Nat.le_of_ble_eq_true rfl)) dL_law_431 ⟨Nat.le_trans (by omega) hcs.1, Nat.le_trans (by omega) hcs.2⟩) hS (fun q _ h => hFc q h) hFc (fun r0 u t H1 locs ht hvm hq1 hB hz1 hk1 hS => ?_)
  obtain ⟨hP1, hK1, hD1⟩ := hB
  rw [ht] at hP1
  obtain ⟨hP, hD⟩ := va_join (wr := mw r cI cZ (b) (g)) (w1 := ow q cI cZ cG cL o (u.2) (u.1.1) (u.1.2.1) (u.1.2.2)) hP hD [0, 1, 2, 3, 4, 5, 6, 7, 8, 9, 10, 11, 12, 13, 14, 15, 16, 17, 18, 19, 20, 21, 22, 23, 24, 25, 26, 27] [28, 29, 30, 31, 32, 33, 34, 35, 36, 37, 38] rfl rfl (by decide) (by decide) hk1 hFc hP1 hD1
  generalize H1 = H at hP hS ⊢
  refine lv_istore (lv' := [(5, .int r0), (4, .int (nI i)), (0, .ref b0), (1, .ref (q 0)), (2, .ref (r 0)), (3, .ref o)]) hx hb dL_law_434 hl (by decide) rfl (fun ls hl => ?_)
  refine lv_aload_n hx hb dL_law_436 rfl (lv_at hl 4 rfl) ?_
  refine lv_aload_n hx hb dL_law_437 rfl (lv_at hl 2 rfl) ?_
  refine lv_iload hx hb dL_law_438 (lv_at hl 1 rfl) ?_
  refine lv_iconst (v := 1) hx hb dL_law_440 (by decide) ?_
  refine nr_iadd hx hb (a1 := i) (b1 := 1) dL_law_441 ?_
  refine nr_sld hx hb hX hbl hbA hS (j := i + 1) (by omega) hL dL_law_442 ?_
  have hPm := hP.sub (ws' := mw r cI cZ (b) (g)) [0, 1, 2, 3, 4, 5, 6, 7, 8, 9, 10] rfl
  have hDm := hD.sub (ws' := mw r cI cZ (b) (g)) [0, 1, 2, 3, 4, 5, 6, 7, 8, 9, 10] (by decide) rfl
  have hKm := hK.sub (tys' := xt cI cZ cG) [0, 1, 2] rfl
  have hFm := va_free (wc := mw r cI cZ (b) (g)) hD hS hA [0, 1, 2, 3, 4, 5, 6, 7, 8, 9, 10] rfl
  refine va_calli (va_runV (As := [.int (xs (i + 1))]) (rest := []) ⟨hx, hb, hml, hown, hbw⟩ (tM_length l dC dI r cI cZ cG b g H.size ev ms (xs (i + 1)) hev hg1 hm hg4 hsy) (cwV 1 hbw (bw_V km_L_78 ki_yM_length ksel_yM_length ki_EventPatternsModel kcM_length) rfl rfl rfl (by decide +kernel) ⟨Nat.le_of_ble_eq_true rfl, Nat.le_of_ble_eq_true rfl⟩) ⟨fun a U g mk q => by obtain ⟨q0, q1, qP, qK, qD⟩ := q; exact ⟨q0, q1, qP, va_K.moved (u := U) (U := U.calling g mk a) (Vm.Alike.refl U.vm) qK, qD⟩, va_recv hK hP (ci := 1) (q0 := 0) rfl rfl, fun U hU hW => ⟨rfl, by rw [hU], by rw [hU]; exact hPm, va_K.moved hW.alike hKm, hDm.weaken (fun _ _ _ _ => trivial)⟩⟩ rfl rfl hl.1 rfl (lv_room (Nat.le_of_ble_eq_true rfl)) dL_law_443 ⟨Nat.le_trans (by omega) hcs.1, Nat.le_trans (by omega) hcs.2⟩) hS (fun q _ h => hFm q h) hFm (fun r1 v t H1 locs ht hvm hq2 hB hz2 hk2 hS => ?_)
  obtain ⟨hP2, hK2, hD2⟩ := hB
  rw [ht] at hP2
  obtain ⟨hP, hD⟩ := va_join (wr := ow q cI cZ cG cL o (u.2) (u.1.1) (u.1.2.1) (u.1.2.2)) (w1 := mw r cI cZ (v.1) (v.2)) hP hD [0, 1, 2, 3, 4, 5, 6, 7, 8, 9, 10] [11, 12, 13, 14, 15, 16, 17, 18, 19, 20, 21, 22, 23, 24, 25, 26, 27, 28, 29, 30, 31, 32, 33, 34, 35, 36, 37, 38] rfl rfl (by decide) (by decide) hk2 hFm hP2 hD2
  generalize H1 = H at hP hS ⊢
  obtain ⟨hthr, hval, e9, n9, m9, hL9⟩ := ly_length hLn hq1 hq2
  refine lv_istore (lv' := [(6, .int r1), (5, .int r0), (4, .int (nI i)), (0, .ref b0), (1, .ref (q 0)), (2, .ref (r 0)), (3, .ref o)]) hx hb dL_law_446 hl (by decide) rfl (fun ls hl => ?_)
  refine lv_aload_n hx hb dL_law_448 rfl (lv_at hl 5 rfl) ?_
  have hPt := hP.sub (ws' := mw r cI cZ (v.1) (v.2)) [28, 29, 30, 31, 32, 33, 34, 35, 36, 37, 38] rfl
  refine vp_callSi (W.runV (As := []) (rest := []) ⟨hx, hb, hml, hown, hbw⟩ (tM_thrown l dC dI r cI cZ cG v.1 v.2) (cwV 0 hbw (bw_V km_L_53 ki_yM_thrown ksel_yM_thrown ki_EventPatternsModel kcM_thrown) rfl rfl rfl (by decide +kernel) ⟨Nat.le_of_ble_eq_true rfl, Nat.le_of_ble_eq_true rfl⟩) ⟨fun a U g mk q => by obtain ⟨q0, qP, qK⟩ := q; exact ⟨q0, qP, va_K.moved (u := U) (U := U.calling g mk a) (Vm.Alike.refl U.vm) qK⟩, va_recv hK hP (ci := 1) (q0 := 28) rfl rfl, fun U hU hW => ⟨rfl, by rw [hU]; exact hPt, va_K.moved hW.alike hKm⟩⟩ rfl rfl hl.1 rfl (lv_room (Nat.le_of_ble_eq_true rfl)) dL_law_449 ⟨Nat.le_trans (by omega) hcs.1, Nat.le_trans (by omega) hcs.2⟩) (fun r2 hr2 => ?_)
  refine lv_iload hx hb dL_law_452 (lv_at hl 1 rfl) ?_
  refine lv_icmp_eq (tgt := 459) hx hb dL_law_454 (by decide) (fun c1 => ?_) (fun c1 => absurd (hr2.trans hthr) c1)
  refine lv_iload hx hb dL_law_459 (lv_at hl 1 rfl) ?_
  refine lv_if_ne (tgt := 476) hx hb dL_law_461 (by decide) (fun c2 => ?_) (fun c2 => ?_)
  · refine lv_goto (tgt := 572) hx hb dL_law_476 (by decide) ?_
    refine W.widen (k := cells + 3) (n := slots + 18) (by omega) (by omega) ?_
    exact kk u v e9 n9 m9 _ _ _ hL9 (lv_sub hl [2, 3, 4, 5, 6] rfl) hP hD hS
  · refine lv_aload_n hx hb dL_law_464 rfl (lv_at hl 6 rfl) ?_
    refine lv_iconst (v := 0) hx hb dL_law_465 (by decide) ?_
    refine va_lald hx hb hK hP 0 3 rfl rfl (by unfold vp_in; decide) dL_law_466 ?_
    refine lv_iload hx hb dL_law_467 (lv_at hl 0 rfl) ?_
    refine lv_i2l hx hb dL_law_469 rfl ?_
    refine W.lcmp hx hb dL_law_470 ?_
    refine lv_if_eq (tgt := 476) hx hb dL_law_471 (by decide) (fun _ => ?_) (fun c3 => absurd ((congrArg (fun z => lg_cmp z r1.toInt64) (hval c2)).trans (lk_cmp _)) c3)
    refine lv_goto (tgt := 572) hx hb dL_law_476 (by decide) ?_
    refine W.widen (k := cells + 3) (n := slots + 18) (by omega) (by omega) ?_
    exact kk u v e9 n9 m9 _ _ _ hL9 (lv_sub hl [2, 3, 4, 5, 6] rfl) hP hD hS
set_option maxHeartbeats 4000000 in
set_option maxRecDepth 100000 in
/-- the law's case of match -/
theorem lL_match (l : Launch) (dC : Nat → ClassId) (dI : Nat → Nat → Nat) (q r : Nat → Nat) (cI cZ cG cL : ClassId) (o : Nat) {p : Program} {e : Env} {s : State} {m : MethodId} {args : Array Value} {below : List Frame} {meth : Method} {c : Code} {Q : State → Prop} {A : Nat → Prop} {cells slots : Nat} {b0 L : Nat} {xs : Nat → Int32} (hL : L < 2 ^ 30) (hcs : cells + 3 ≤ room_1.cells ∧ slots + 18 ≤ room_1.slots) (hx : p.tables.exec = Jvm.exec) (hb : c.code = cL_law) (hml : c.maxLocals = 7) (hown : s.vm.findClass "EventPatternsLaw" = some m.cls) (hbw : ∀ w ∈ bw, w.before args s = true) (hK : va_K (dC, dI) cls2 (ot cI cZ cG cL) s) (hA : ∀ q : Nat, s.heap.size ≤ q → A q) (hX : va_X b0 L xs s s.heap) (hbl : b0 < s.heap.size) (hbA : ¬ A b0) (hE : xE l A s s.heap) (hNc : xNc s)
    (i : Nat) (hi : i + 5 ≤ L) (h : Nat → Int64) (a : Nat → Nat → Int32) (f : Nat → Int32) (w : Nat → Nat → Int32) (b : Nat → Nat → Int32) (g : Nat → Int32) (ev n ms : Nat) (hLn : Ln a f b g ev n ms) (H : Heap) (locs : List Loc) (ls : Array Slot) (hl : lv_has ls 7 [(4, .int (nI i)), (0, .ref b0), (1, .ref (q 0)), (2, .ref (r 0)), (3, .ref o)]) (hP : va_P (dC, dI) cls2 (lW q r cI cZ cG cL o h a f w b g) H) (hD : va_D A (lW q r cI cZ cG cL o h a f w b g)) (hS : va_S A s.heap H locs)
    (kk : ∀ (u : XS × (Nat → Int64)) (v : MS) (ev n ms : Nat) (H : Heap) (locs : List Loc) (ls : Array Slot), Ln u.1.1 u.1.2.1 v.1 v.2 ev n ms → lv_has ls 7 [(4, .int (nI i)), (0, .ref b0), (1, .ref (q 0)), (2, .ref (r 0)), (3, .ref o)] → va_P (dC, dI) cls2 (lW q r cI cZ cG cL o u.2 u.1.1 u.1.2.1 u.1.2.2 v.1 v.2) H → va_D A (lW q r cI cZ cG cL o u.2 u.1.1 u.1.2.1 u.1.2.2 v.1 v.2) → va_S A s.heap H locs → W p l e room_1 s m args below meth c H locs (cells + 3) (slots + 18) Q (F0 m 572 ls [])) :
    W p l e room_1 s m args below meth c H locs cells slots Q (F0 m 479 ls []) := by
  obtain ⟨hAg, hev, hf0, hf1, hf4, hg1, hg4⟩ := id hLn
  obtain ⟨hn, hnev, hdf, hm, hsy⟩ := hLn.lo
  refine lv_aload_n hx hb dL_law_479 rfl (lv_at hl 2 rfl) ?_
  refine lv_aload_n hx hb dL_law_480 rfl (lv_at hl 1 rfl) ?_
  refine lv_iload hx hb dL_law_481 (lv_at hl 0 rfl) ?_
  refine lv_iconst (v := 1) hx hb dL_law_483 (by decide) ?_
  refine nr_iadd hx hb (a1 := i) (b1 := 1) dL_law_484 ?_
  refine nr_sld hx hb hX hbl hbA hS (j := i + 1) (by omega) hL dL_law_485 ?_
  refine lv_aload_n hx hb dL_law_486 rfl (lv_at hl 1 rfl) ?_
  refine lv_iload hx hb dL_law_487 (lv_at hl 0 rfl) ?_
  refine lv_iconst (v := 2) hx hb dL_law_489 (by decide) ?_
  refine nr_iadd hx hb (a1 := i) (b1 := 2) dL_law_490 ?_
  refine nr_sld hx hb hX hbl hbA hS (j := i + 2) (by omega) hL dL_law_491 ?_
  refine lv_aload_n hx hb dL_law_492 rfl (lv_at hl 1 rfl) ?_
  refine lv_iload hx hb dL_law_493 (lv_at hl 0 rfl) ?_
  refine lv_iconst (v := 3) hx hb dL_law_495 (by decide) ?_
  refine nr_iadd hx hb (a1 := i) (b1 := 3) dL_law_496 ?_
  refine nr_sld hx hb hX hbl hbA hS (j := i + 3) (by omega) hL dL_law_497 ?_
  refine lv_aload_n hx hb dL_law_498 rfl (lv_at hl 4 rfl) ?_
  have hPc := hP.sub (ws' := ow q cI cZ cG cL o (h) (a) (f) (w)) [0, 1, 2, 3, 4, 5, 6, 7, 8, 9, 10, 11, 12, 13, 14, 15, 16, 17, 18, 19, 20, 21, 22, 23, 24, 25, 26, 27] rfl
  have hDc := hD.sub (ws' := ow q cI cZ cG cL o (h) (a) (f) (w)) [0, 1, 2, 3, 4, 5, 6, 7, 8, 9, 10, 11, 12, 13, 14, 15, 16, 17, 18, 19, 20, 21, 22, 23, 24, 25, 26, 27] (by decide) rfl
  have hFc := va_free (wc := ow q cI cZ cG cL o (h) (a) (f) (w)) hD hS hA [0, 1, 2, 3, 4, 5, 6, 7, 8, 9, 10, 11, 12, 13, 14, 15, 16, 17, 18, 19, 20, 21, 22, 23, 24, 25, 26, 27] rfl
  refine va_calli (vx_runSW (As := [.ref (q 0), .int (xs (i + 1)), .int (xs (i + 2)), .int (xs (i + 3)), .ref o]) (rest := []) ⟨hx, hb, hml, hown, hbw⟩ (tL_match l dC dI q cI cZ cG cL o h a f w H.size n ev ms (xs (i + 1)) (xs (i + 2)) (xs (i + 3)) hn hf1 hnev hev hf0 hm hf4) (vx_cwSW 5 hbw (bw_SW km_L_79 ks_yL_match ki_EventPatternsLaw kcL_match) rfl rfl rfl (by decide +kernel) ⟨Nat.le_of_ble_eq_true rfl, Nat.le_of_ble_eq_true rfl⟩) ⟨fun a U g mk q => by obtain ⟨q0, q1, qP, qK, qD, qE, qN⟩ := q; exact ⟨q0, q1, qP, va_K.moved (u := U) (U := U.calling g mk a) (Vm.Alike.refl U.vm) qK, qD, xE.same (s := U) rfl qE, xNc.moved (u := U) (U := U.calling g mk a) (Vm.Alike.refl U.vm) qN⟩, fun U hU hW => ⟨rfl, by rw [hU], by rw [hU]; exact hPc, va_K.moved hW.alike hK, hDc.weaken (fun _ _ _ _ => trivial), by rw [hU]; exact ((hE.kept hS.2.1).narrow hFc).warm hW, hNc.moved hW.alike⟩⟩ rfl rfl hl.1 rfl (lv_room (Nat.le_of_ble_eq_true rfl)) dL_law_499 ⟨Nat.le_trans (by omega) hcs.1, Nat.le_trans (by omega) hcs.2⟩) hS (fun q _ h => hFc q h) hFc (fun r0 u t H1 locs ht hvm hq1 hB hz1 hk1 hS => ?_)
  obtain ⟨hP1, hK1, hD1⟩ := hB
  rw [ht] at hP1
  obtain ⟨hP, hD⟩ := va_join (wr := mw r cI cZ (b) (g)) (w1 := ow q cI cZ cG cL o (u.2) (u.1.1) (u.1.2.1) (u.1.2.2)) hP hD [0, 1, 2, 3, 4, 5, 6, 7, 8, 9, 10, 11, 12, 13, 14, 15, 16, 17, 18, 19, 20, 21, 22, 23, 24, 25, 26, 27] [28, 29, 30, 31, 32, 33, 34, 35, 36, 37, 38] rfl rfl (by decide) (by decide) hk1 hFc hP1 hD1
  generalize H1 = H at hP hS ⊢
  refine lv_istore (lv' := [(5, .int r0), (4, .int (nI i)), (0, .ref b0), (1, .ref (q 0)), (2, .ref (r 0)), (3, .ref o)]) hx hb dL_law_502 hl (by decide) rfl (fun ls hl => ?_)
  refine lv_aload_n hx hb dL_law_504 rfl (lv_at hl 4 rfl) ?_
  refine lv_aload_n hx hb dL_law_505 rfl (lv_at hl 2 rfl) ?_
  refine lv_iload hx hb dL_law_506 (lv_at hl 1 rfl) ?_
  refine lv_iconst (v := 1) hx hb dL_law_508 (by decide) ?_
  refine nr_iadd hx hb (a1 := i) (b1 := 1) dL_law_509 ?_
  refine nr_sld hx hb hX hbl hbA hS (j := i + 1) (by omega) hL dL_law_510 ?_
  refine lv_aload_n hx hb dL_law_511 rfl (lv_at hl 2 rfl) ?_
  refine lv_iload hx hb dL_law_512 (lv_at hl 1 rfl) ?_
  refine lv_iconst (v := 2) hx hb dL_law_514 (by decide) ?_
  refine nr_iadd hx hb (a1 := i) (b1 := 2) dL_law_515 ?_
  refine nr_sld hx hb hX hbl hbA hS (j := i + 2) (by omega) hL dL_law_516 ?_
  refine lv_aload_n hx hb dL_law_517 rfl (lv_at hl 2 rfl) ?_
  refine lv_iload hx hb dL_law_518 (lv_at hl 1 rfl) ?_
  refine lv_iconst (v := 3) hx hb dL_law_520 (by decide) ?_
  refine nr_iadd hx hb (a1 := i) (b1 := 3) dL_law_521 ?_
  refine nr_sld hx hb hX hbl hbA hS (j := i + 3) (by omega) hL dL_law_522 ?_
  have hPm := hP.sub (ws' := mw r cI cZ (b) (g)) [0, 1, 2, 3, 4, 5, 6, 7, 8, 9, 10] rfl
  have hDm := hD.sub (ws' := mw r cI cZ (b) (g)) [0, 1, 2, 3, 4, 5, 6, 7, 8, 9, 10] (by decide) rfl
  have hKm := hK.sub (tys' := xt cI cZ cG) [0, 1, 2] rfl
  have hFm := va_free (wc := mw r cI cZ (b) (g)) hD hS hA [0, 1, 2, 3, 4, 5, 6, 7, 8, 9, 10] rfl
  refine va_calli (va_runV (As := [.int (xs (i + 1)), .int (xs (i + 2)), .int (xs (i + 3))]) (rest := []) ⟨hx, hb, hml, hown, hbw⟩ (tM_match l dC dI r cI cZ cG b g H.size ev ms (xs (i + 1)) (xs (i + 2)) (xs (i + 3)) hev hg1 hm hg4 hsy) (cwV 3 hbw (bw_V km_L_81 ki_yM_match ksel_yM_match ki_EventPatternsModel kcM_match) rfl rfl rfl (by decide +kernel) ⟨Nat.le_of_ble_eq_true rfl, Nat.le_of_ble_eq_true rfl⟩) ⟨fun a U g mk q => by obtain ⟨q0, q1, qP, qK, qD⟩ := q; exact ⟨q0, q1, qP, va_K.moved (u := U) (U := U.calling g mk a) (Vm.Alike.refl U.vm) qK, qD⟩, va_recv hK hP (ci := 1) (q0 := 0) rfl rfl, fun U hU hW => ⟨rfl, by rw [hU], by rw [hU]; exact hPm, va_K.moved hW.alike hKm, hDm.weaken (fun _ _ _ _ => trivial)⟩⟩ rfl rfl hl.1 rfl (lv_room (Nat.le_of_ble_eq_true rfl)) dL_law_523 ⟨Nat.le_trans (by omega) hcs.1, Nat.le_trans (by omega) hcs.2⟩) hS (fun q _ h => hFm q h) hFm (fun r1 v t H1 locs ht hvm hq2 hB hz2 hk2 hS => ?_)
  obtain ⟨hP2, hK2, hD2⟩ := hB
  rw [ht] at hP2
  obtain ⟨hP, hD⟩ := va_join (wr := ow q cI cZ cG cL o (u.2) (u.1.1) (u.1.2.1) (u.1.2.2)) (w1 := mw r cI cZ (v.1) (v.2)) hP hD [0, 1, 2, 3, 4, 5, 6, 7, 8, 9, 10] [11, 12, 13, 14, 15, 16, 17, 18, 19, 20, 21, 22, 23, 24, 25, 26, 27, 28, 29, 30, 31, 32, 33, 34, 35, 36, 37, 38] rfl rfl (by decide) (by decide) hk2 hFm hP2 hD2
  generalize H1 = H at hP hS ⊢
  obtain ⟨hthr, hval, e9, n9, m9, hL9⟩ := ly_match hLn hq1 hq2
  refine lv_istore (lv' := [(6, .int r1), (5, .int r0), (4, .int (nI i)), (0, .ref b0), (1, .ref (q 0)), (2, .ref (r 0)), (3, .ref o)]) hx hb dL_law_526 hl (by decide) rfl (fun ls hl => ?_)
  refine lv_aload_n hx hb dL_law_528 rfl (lv_at hl 5 rfl) ?_
  have hPt := hP.sub (ws' := mw r cI cZ (v.1) (v.2)) [28, 29, 30, 31, 32, 33, 34, 35, 36, 37, 38] rfl
  refine vp_callSi (W.runV (As := []) (rest := []) ⟨hx, hb, hml, hown, hbw⟩ (tM_thrown l dC dI r cI cZ cG v.1 v.2) (cwV 0 hbw (bw_V km_L_53 ki_yM_thrown ksel_yM_thrown ki_EventPatternsModel kcM_thrown) rfl rfl rfl (by decide +kernel) ⟨Nat.le_of_ble_eq_true rfl, Nat.le_of_ble_eq_true rfl⟩) ⟨fun a U g mk q => by obtain ⟨q0, qP, qK⟩ := q; exact ⟨q0, qP, va_K.moved (u := U) (U := U.calling g mk a) (Vm.Alike.refl U.vm) qK⟩, va_recv hK hP (ci := 1) (q0 := 28) rfl rfl, fun U hU hW => ⟨rfl, by rw [hU]; exact hPt, va_K.moved hW.alike hKm⟩⟩ rfl rfl hl.1 rfl (lv_room (Nat.le_of_ble_eq_true rfl)) dL_law_529 ⟨Nat.le_trans (by omega) hcs.1, Nat.le_trans (by omega) hcs.2⟩) (fun r2 hr2 => ?_)
  refine lv_iload hx hb dL_law_532 (lv_at hl 1 rfl) ?_
  refine lv_icmp_eq (tgt := 539) hx hb dL_law_534 (by decide) (fun c1 => ?_) (fun c1 => absurd (hr2.trans hthr) c1)
  refine lv_iload hx hb dL_law_539 (lv_at hl 1 rfl) ?_
  refine lv_if_ne (tgt := 556) hx hb dL_law_541 (by decide) (fun c2 => ?_) (fun c2 => ?_)
  · refine lv_goto (tgt := 572) hx hb dL_law_556 (by decide) ?_
    refine W.widen (k := cells + 3) (n := slots + 18) (by omega) (by omega) ?_
    exact kk u v e9 n9 m9 _ _ _ hL9 (lv_sub hl [2, 3, 4, 5, 6] rfl) hP hD hS
  · refine lv_aload_n hx hb dL_law_544 rfl (lv_at hl 6 rfl) ?_
    refine lv_iconst (v := 0) hx hb dL_law_545 (by decide) ?_
    refine va_lald hx hb hK hP 0 3 rfl rfl (by unfold vp_in; decide) dL_law_546 ?_
    refine lv_iload hx hb dL_law_547 (lv_at hl 0 rfl) ?_
    refine lv_i2l hx hb dL_law_549 rfl ?_
    refine W.lcmp hx hb dL_law_550 ?_
    refine lv_if_eq (tgt := 556) hx hb dL_law_551 (by decide) (fun _ => ?_) (fun c3 => absurd ((congrArg (fun z => lg_cmp z r1.toInt64) (hval c2)).trans (lk_cmp _)) c3)
    refine lv_goto (tgt := 572) hx hb dL_law_556 (by decide) ?_
    refine W.widen (k := cells + 3) (n := slots + 18) (by omega) (by omega) ?_
    exact kk u v e9 n9 m9 _ _ _ hL9 (lv_sub hl [2, 3, 4, 5, 6] rfl) hP hD hS
set_option maxHeartbeats 4000000 in
set_option maxRecDepth 100000 in
/-- the law's case of events -/
theorem lL_events (l : Launch) (dC : Nat → ClassId) (dI : Nat → Nat → Nat) (q r : Nat → Nat) (cI cZ cG cL : ClassId) (o : Nat) {p : Program} {e : Env} {s : State} {m : MethodId} {args : Array Value} {below : List Frame} {meth : Method} {c : Code} {Q : State → Prop} {A : Nat → Prop} {cells slots : Nat} {b0 L : Nat} {xs : Nat → Int32} (hL : L < 2 ^ 30) (hcs : cells + 3 ≤ room_1.cells ∧ slots + 18 ≤ room_1.slots) (hx : p.tables.exec = Jvm.exec) (hb : c.code = cL_law) (hml : c.maxLocals = 7) (hown : s.vm.findClass "EventPatternsLaw" = some m.cls) (hbw : ∀ w ∈ bw, w.before args s = true) (hK : va_K (dC, dI) cls2 (ot cI cZ cG cL) s) (hA : ∀ q : Nat, s.heap.size ≤ q → A q) (hX : va_X b0 L xs s s.heap) (hbl : b0 < s.heap.size) (hbA : ¬ A b0) (hE : xE l A s s.heap) (hNc : xNc s)
    (i : Nat) (hi : i + 5 ≤ L) (h : Nat → Int64) (a : Nat → Nat → Int32) (f : Nat → Int32) (w : Nat → Nat → Int32) (b : Nat → Nat → Int32) (g : Nat → Int32) (ev n ms : Nat) (hLn : Ln a f b g ev n ms) (H : Heap) (locs : List Loc) (ls : Array Slot) (hl : lv_has ls 7 [(4, .int (nI i)), (0, .ref b0), (1, .ref (q 0)), (2, .ref (r 0)), (3, .ref o)]) (hP : va_P (dC, dI) cls2 (lW q r cI cZ cG cL o h a f w b g) H) (hD : va_D A (lW q r cI cZ cG cL o h a f w b g)) (hS : va_S A s.heap H locs)
    (kk : ∀ (u : XS × (Nat → Int64)) (v : MS) (ev n ms : Nat) (H : Heap) (locs : List Loc) (ls : Array Slot), Ln u.1.1 u.1.2.1 v.1 v.2 ev n ms → lv_has ls 7 [(4, .int (nI i)), (0, .ref b0), (1, .ref (q 0)), (2, .ref (r 0)), (3, .ref o)] → va_P (dC, dI) cls2 (lW q r cI cZ cG cL o u.2 u.1.1 u.1.2.1 u.1.2.2 v.1 v.2) H → va_D A (lW q r cI cZ cG cL o u.2 u.1.1 u.1.2.1 u.1.2.2 v.1 v.2) → va_S A s.heap H locs → W p l e room_1 s m args below meth c H locs (cells + 3) (slots + 18) Q (F0 m 572 ls [])) :
    W p l e room_1 s m args below meth c H locs cells slots Q (F0 m 559 ls []) := by
  obtain ⟨hAg, hev, hf0, hf1, hf4, hg1, hg4⟩ := id hLn
  refine lv_aload_n hx hb dL_law_559 rfl (lv_at hl 2 rfl) ?_
  have hPc := hP.sub (ws' := xw q cI cZ cG a f w) [1, 2, 3, 4, 5, 6, 7, 8, 9, 10, 11, 12, 13, 14, 15, 16, 17, 18, 19, 20, 21, 22, 23, 24, 25, 26, 27] rfl
  have hKm := hK.sub (tys' := xt cI cZ cG) [0, 1, 2] rfl
  refine vp_callSi (W.runV (As := []) (rest := []) ⟨hx, hb, hml, hown, hbw⟩ (tX_events l dC dI q cI cZ cG a f w) (cwV 0 hbw (bw_V km_L_82 ki_yX_events ksel_yX_events ki_EventPatterns kcX_events) rfl rfl rfl (by decide +kernel) ⟨Nat.le_of_ble_eq_true rfl, Nat.le_of_ble_eq_true rfl⟩) ⟨fun a U g mk q => by obtain ⟨q0, qP, qK⟩ := q; exact ⟨q0, qP, va_K.moved (u := U) (U := U.calling g mk a) (Vm.Alike.refl U.vm) qK⟩, va_recv hK hP (ci := 0) (q0 := 1) rfl rfl, fun U hU hW => ⟨rfl, by rw [hU]; exact hPc, va_K.moved hW.alike hKm⟩⟩ rfl rfl hl.1 rfl (lv_room (Nat.le_of_ble_eq_true rfl)) dL_law_560 ⟨Nat.le_trans (by omega) hcs.1, Nat.le_trans (by omega) hcs.2⟩) (fun r1 hr1 => ?_)
  refine lv_aload_n hx hb dL_law_563 rfl (lv_at hl 3 rfl) ?_
  have hPm := hP.sub (ws' := mw r cI cZ (b) (g)) [28, 29, 30, 31, 32, 33, 34, 35, 36, 37, 38] rfl
  have hDm := hD.sub (ws' := mw r cI cZ (b) (g)) [28, 29, 30, 31, 32, 33, 34, 35, 36, 37, 38] (by decide) rfl
  have hFm := va_free (wc := mw r cI cZ (b) (g)) hD hS hA [28, 29, 30, 31, 32, 33, 34, 35, 36, 37, 38] rfl
  refine va_calli (va_runV (As := []) (rest := [.int r1]) ⟨hx, hb, hml, hown, hbw⟩ (tM_events l dC dI r cI cZ cG b g H.size) (cwV 0 hbw (bw_V km_L_85 ki_yM_events ksel_yM_events ki_EventPatternsModel kcM_events) rfl rfl rfl (by decide +kernel) ⟨Nat.le_of_ble_eq_true rfl, Nat.le_of_ble_eq_true rfl⟩) ⟨fun a U g mk q => by obtain ⟨q0, q1, qP, qK, qD⟩ := q; exact ⟨q0, q1, qP, va_K.moved (u := U) (U := U.calling g mk a) (Vm.Alike.refl U.vm) qK, qD⟩, va_recv hK hP (ci := 1) (q0 := 28) rfl rfl, fun U hU hW => ⟨rfl, by rw [hU], by rw [hU]; exact hPm, va_K.moved hW.alike hKm, hDm.weaken (fun _ _ _ _ => trivial)⟩⟩ rfl rfl hl.1 rfl (lv_room (Nat.le_of_ble_eq_true rfl)) dL_law_564 ⟨Nat.le_trans (by omega) hcs.1, Nat.le_trans (by omega) hcs.2⟩) hS (fun q _ h => hFm q h) hFm (fun r2 v t H1 locs ht hvm hq2 hB hz2 hk2 hS => ?_)
  obtain ⟨hP2, hK2, hD2⟩ := hB
  rw [ht] at hP2
  obtain ⟨hP, hD⟩ := va_join (wr := ow q cI cZ cG cL o (h) (a) (f) (w)) (w1 := mw r cI cZ (v.1) (v.2)) hP hD [28, 29, 30, 31, 32, 33, 34, 35, 36, 37, 38] [0, 1, 2, 3, 4, 5, 6, 7, 8, 9, 10, 11, 12, 13, 14, 15, 16, 17, 18, 19, 20, 21, 22, 23, 24, 25, 26, 27] rfl rfl (by decide) (by decide) hk2 hFm hP2 hD2
  generalize H1 = H at hP hS ⊢
  obtain ⟨hr2, hv2⟩ := hq2
  subst hv2
  refine lv_icmp_eq (tgt := 572) hx hb dL_law_567 (by decide) (fun c1 => ?_) (fun c1 => absurd (hr1.trans (hf0.trans (hg1.symm.trans hr2.symm))) c1)
  refine W.widen (k := cells + 3) (n := slots + 18) (by omega) (by omega) ?_
  exact kk ((a, f, w), h) _ ev n ms _ _ _ (hLn.same (fun _ _ => rfl) (fun _ _ => rfl) (fun _ _ => rfl) up0) (lv_sub hl [0, 1, 2, 3, 4] rfl) hP hD hS
