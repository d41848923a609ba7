/-! WHAT A THROW NEEDS OF THE START -/
def xNg : List Cond := [.castable "java/lang/IllegalArgumentException" "java/lang/IllegalArgumentException", .castable "java/lang/UnsupportedOperationException" "java/lang/UnsupportedOperationException", .castable "java/lang/IndexOutOfBoundsException" "java/lang/IndexOutOfBoundsException", .castable "java/lang/IllegalStateException" "java/lang/IllegalStateException", .declares ⟨"java/lang/RuntimeException", "<init>", "(Ljava/lang/String;)V"⟩, .declares ⟨"java/lang/Exception", "<init>", "(Ljava/lang/String;)V"⟩, .declares ⟨"java/lang/Throwable", "<init>", "(Ljava/lang/String;)V"⟩]
def xStr : List (Nat × String) := [(69, "no such time here"), (74, "no such kind"), (78, "no room for more events"), (84, "no such style"), (86, "no such span"), (88, "no such kinds"), (90, "no such test"), (92, "no room for more steps"), (114, "the pattern has no steps"), (121, "no such match"), (107, "no such event in the match"), (110, "no such what")]
theorem xNg_ot : ∀ w ∈ xNg, w.onTables = true := by decide +kernel
theorem xNg_warm {s U : State} (hW : s.WarmedH U.vm) {w : Cond} (hw : w ∈ xNg) (h : va_Nw w s) : va_Nw w U := by
  simp only [xNg, List.mem_cons, List.not_mem_nil, or_false] at hw
  rcases hw with rfl | rfl | rfl | rfl | rfl | rfl | rfl
  · exact va_Nw.warmC hW h
  · exact va_Nw.warmC hW h
  · exact va_Nw.warmC hW h
  · exact va_Nw.warmC hW h
  · exact va_Nw.warmD hW h
  · exact va_Nw.warmD hW h
  · exact va_Nw.warmD hW h
/-- no traces are kept; two statics of Throwable lie outside A; words on exceptions; the texts of the class are Strings -/
def xE (l : Launch) (A : Nat → Prop) (U : State) (H : Heap) : Prop :=
  l.stackTraces = false ∧ vx_Zq Bundle.tN "UNASSIGNED_STACK" Bundle.steD A U H ∧ vx_Zq Bundle.tN "SUPPRESSED_SENTINEL" Bundle.listD A U H ∧ (∀ w ∈ xNg, va_Nw w U) ∧ ∀ z ∈ xStr, ∃ sa : Nat, vk_R "EventPatterns" z.1 z.2 sa U
theorem xE.warm {l : Launch} {A : Nat → Prop} {s U : State} {H : Heap} (hW : s.WarmedH U.vm) (h : xE l A s H) : xE l A U H :=
  ⟨h.1, h.2.1.moved hW.alike, h.2.2.1.moved hW.alike, fun w hw => xNg_warm hW hw (h.2.2.2.1 w hw), fun z hz => by obtain ⟨sa, h1⟩ := h.2.2.2.2 z hz; exact ⟨sa, h1.warm hW⟩⟩
theorem xE.same {l : Launch} {A : Nat → Prop} {s U : State} {H : Heap} (hv : U.vm = s.vm) (h : xE l A s H) : xE l A U H := by
  have ha : s.vm.Alike U.vm := by rw [hv]; exact Vm.Alike.refl _
  exact ⟨h.1, h.2.1.moved ha, h.2.2.1.moved ha, fun w hw => va_Nw.same (xNg_ot w hw) hv.symm (h.2.2.2.1 w hw), fun z hz => by obtain ⟨sa, h1⟩ := h.2.2.2.2 z hz; exact ⟨sa, h1.same hv⟩⟩
theorem xE.kept {l : Launch} {A : Nat → Prop} {U : State} {H H1 : Heap} (h : xE l A U H) (hq : ∀ a : Nat, a < H.size → ¬ A a → H1[a]? = H[a]?) : xE l A U H1 := ⟨h.1, h.2.1.kept hq, h.2.2.1.kept hq, h.2.2.2⟩
theorem xE.narrow {l : Launch} {A B : Nat → Prop} {U : State} {H : Heap} (h : xE l A U H) (hAB : ∀ q, B q → A q) : xE l B U H := ⟨h.1, h.2.1.narrow hAB, h.2.2.1.narrow hAB, h.2.2.2⟩
theorem xin_IAE : ∀ w ∈ (vx_atS "EventPatterns" 71 "java/lang/IllegalArgumentException" ["java/lang/RuntimeException", "java/lang/Exception"]).filter goodWord, w ∈ bw := by decide +kernel
theorem xng_IAE : ∀ w ∈ (vx_atS "EventPatterns" 71 "java/lang/IllegalArgumentException" ["java/lang/RuntimeException", "java/lang/Exception"]).filter (fun w => !goodWord w), w ∈ xNg := by decide +kernel
theorem xgd_IAE : ∀ w ∈ Cond.classLink "EventPatterns" 67 "java/lang/IllegalArgumentException" :: Cond.initialized "java/lang/IllegalArgumentException" :: vx_atS "EventPatterns" 71 "java/lang/IllegalArgumentException" ["java/lang/RuntimeException", "java/lang/Exception"], vx_ot w = true := by decide +kernel
theorem xat_IAE {l : Launch} {A : Nat → Prop} {args : Array Value} {s : State} {H : Heap} (hbw : ∀ w ∈ bw, w.before args s = true) (hE : xE l A s H) : ∀ w ∈ vx_atS "EventPatterns" 71 "java/lang/IllegalArgumentException" ["java/lang/RuntimeException", "java/lang/Exception"], w.before args s = true :=
  vx_hat (fun w hw => hbw w (xin_IAE w hw)) xng_IAE (fun w hw => va_Nw.use (xNg_ot w hw) (hE.2.2.2.1 w hw))
theorem xin_UOE : ∀ w ∈ (vx_atS "EventPatterns" 80 "java/lang/UnsupportedOperationException" ["java/lang/RuntimeException", "java/lang/Exception"]).filter goodWord, w ∈ bw := by decide +kernel
theorem xng_UOE : ∀ w ∈ (vx_atS "EventPatterns" 80 "java/lang/UnsupportedOperationException" ["java/lang/RuntimeException", "java/lang/Exception"]).filter (fun w => !goodWord w), w ∈ xNg := by decide +kernel
theorem xgd_UOE : ∀ w ∈ Cond.classLink "EventPatterns" 76 "java/lang/UnsupportedOperationException" :: Cond.initialized "java/lang/UnsupportedOperationException" :: vx_atS "EventPatterns" 80 "java/lang/UnsupportedOperationException" ["java/lang/RuntimeException", "java/lang/Exception"], vx_ot w = true := by decide +kernel
theorem xat_UOE {l : Launch} {A : Nat → Prop} {args : Array Value} {s : State} {H : Heap} (hbw : ∀ w ∈ bw, w.before args s = true) (hE : xE l A s H) : ∀ w ∈ vx_atS "EventPatterns" 80 "java/lang/UnsupportedOperationException" ["java/lang/RuntimeException", "java/lang/Exception"], w.before args s = true :=
  vx_hat (fun w hw => hbw w (xin_UOE w hw)) xng_UOE (fun w hw => va_Nw.use (xNg_ot w hw) (hE.2.2.2.1 w hw))
theorem xin_IOE : ∀ w ∈ (vx_atS "EventPatterns" 109 "java/lang/IndexOutOfBoundsException" ["java/lang/RuntimeException", "java/lang/Exception"]).filter goodWord, w ∈ bw := by decide +kernel
theorem xng_IOE : ∀ w ∈ (vx_atS "EventPatterns" 109 "java/lang/IndexOutOfBoundsException" ["java/lang/RuntimeException", "java/lang/Exception"]).filter (fun w => !goodWord w), w ∈ xNg := by decide +kernel
theorem xgd_IOE : ∀ w ∈ Cond.classLink "EventPatterns" 105 "java/lang/IndexOutOfBoundsException" :: Cond.initialized "java/lang/IndexOutOfBoundsException" :: vx_atS "EventPatterns" 109 "java/lang/IndexOutOfBoundsException" ["java/lang/RuntimeException", "java/lang/Exception"], vx_ot w = true := by decide +kernel
theorem xat_IOE {l : Launch} {A : Nat → Prop} {args : Array Value} {s : State} {H : Heap} (hbw : ∀ w ∈ bw, w.before args s = true) (hE : xE l A s H) : ∀ w ∈ vx_atS "EventPatterns" 109 "java/lang/IndexOutOfBoundsException" ["java/lang/RuntimeException", "java/lang/Exception"], w.before args s = true :=
  vx_hat (fun w hw => hbw w (xin_IOE w hw)) xng_IOE (fun w hw => va_Nw.use (xNg_ot w hw) (hE.2.2.2.1 w hw))
theorem xin_ISE : ∀ w ∈ (vx_atS "EventPatterns" 116 "java/lang/IllegalStateException" ["java/lang/RuntimeException", "java/lang/Exception"]).filter goodWord, w ∈ bw := by decide +kernel
theorem xng_ISE : ∀ w ∈ (vx_atS "EventPatterns" 116 "java/lang/IllegalStateException" ["java/lang/RuntimeException", "java/lang/Exception"]).filter (fun w => !goodWord w), w ∈ xNg := by decide +kernel
theorem xgd_ISE : ∀ w ∈ Cond.classLink "EventPatterns" 112 "java/lang/IllegalStateException" :: Cond.initialized "java/lang/IllegalStateException" :: vx_atS "EventPatterns" 116 "java/lang/IllegalStateException" ["java/lang/RuntimeException", "java/lang/Exception"], vx_ot w = true := by decide +kernel
theorem xat_ISE {l : Launch} {A : Nat → Prop} {args : Array Value} {s : State} {H : Heap} (hbw : ∀ w ∈ bw, w.before args s = true) (hE : xE l A s H) : ∀ w ∈ vx_atS "EventPatterns" 116 "java/lang/IllegalStateException" ["java/lang/RuntimeException", "java/lang/Exception"], w.before args s = true :=
  vx_hat (fun w hw => hbw w (xin_ISE w hw)) xng_ISE (fun w hw => va_Nw.use (xNg_ot w hw) (hE.2.2.2.1 w hw))
set_option maxHeartbeats 4000000 in
set_option maxRecDepth 100000 in
/-- clear() -/
theorem tX_clear (l : Launch) (dC : Nat → ClassId) (dI : Nat → Nat → Nat) (q : Nat → Nat) (cI cZ cG : ClassId) (a : Nat → Nat → Int32) (f : Nat → Int32) (w : Nat → Nat → Int32) (sz : Nat)   : Met l yX_clear wX_clear ({ frames := 0, cells := 0, slots := 0, locals := 0 }) (va_Pc [.ref (q 0)] (fun U => U.heap.size = sz ∧ va_P (dC, dI) cls2 (xw q cI cZ cG a f w) U.heap ∧ va_K (dC, dI) cls2 (xt cI cZ cG) U ∧ va_D (fun _ => True) (xw q cI cZ cG a f w))) (va_Qv (fun (u : XS) => u = (a, va_up (va_up f 0 0) 1 0, w)) (atX dC dI q cI cZ cG (va_A (xw q cI cZ cG a f w) sz)) (va_A (xw q cI cZ cG a f w) sz)) 0 0 (va_A (xw q cI cZ cG a f w) sz) := by
  refine Met.ofW (cc := cX_clear) (maxL := 1) (ret := none) (by decide) rfl ?_
  intro p e s m args below meth c s₁ B hml hv
  obtain ⟨rfl, hsz, hP, hK, hD0⟩ := hv
  have hx := B.exec
  have hb := B.bytes
  have hr := B.returns
  have hbw : ∀ w ∈ bw, w.before _ s = true := fun w h => atoms_spec (ws := wX_clear) B.pre w (List.mem_cons_of_mem _ h)
  have hown : s.vm.findClass "EventPatterns" = some m.cls := findClass_of_methodNamed B.named
  have hlocks := B.notSynchronized
  subst hsz
  have hD := hD0.self (sz := s.heap.size)
  generalize hAe : va_A (xw q cI cZ cG a f w) s.heap.size = A at hD ⊢
  have hA : ∀ q : Nat, s.heap.size ≤ q → A q := fun q h => by rw [← hAe]; exact Or.inr h
  have hS : va_S A s.heap s.heap [] := va_S.rf
  have hl := lv_entry ([.ref (q 0)]) (n := 1) (Nat.le_of_ble_eq_true rfl)
  rw [lg_entry_eq]
  generalize (lg_sl ([.ref (q 0)]) ++ List.replicate (1 - (lg_sl ([.ref (q 0)])).length) Slot.unset).toArray = ls at hl ⊢
  have hl : lv_has ls 1 [(0, .ref (q 0))] := hl
  refine lv_aload_n hx hb dX_clear_0 rfl (lv_at hl 0 rfl) ?_
  refine lv_iconst (v := 0) hx hb dX_clear_1 (by decide) ?_
  refine va_put (D := (dC, dI)) (ci := 0) (v := .int (0)) (ty := .int) (C := "EventPatterns") (T := TX) (N := 16) hx hb hbw inX tyX okX nmX hown hK hP hD hS 0 rfl rfl 3 (by decide) (hbw _ kf_X_43) (fun _ h9 => h9) rfl (by decide +kernel) rfl rfl (Nat.le_of_ble_eq_true rfl) dX_clear_2 (fun H locs hP hD hS => ?_)
  have hP : va_P (dC, dI) cls2 (xw q cI cZ cG (a) (va_up (f) 0 (0)) (w)) H := hP
  have hD : va_D A (xw q cI cZ cG (a) (va_up (f) 0 (0)) (w)) := hD
  refine lv_aload_n hx hb dX_clear_5 rfl (lv_at hl 0 rfl) ?_
  refine lv_iconst (v := 0) hx hb dX_clear_6 (by decide) ?_
  refine va_put (D := (dC, dI)) (ci := 0) (v := .int (0)) (ty := .int) (C := "EventPatterns") (T := TX) (N := 16) hx hb hbw inX tyX okX nmX hown hK hP hD hS 0 rfl rfl 4 (by decide) (hbw _ kf_X_47) (fun _ h9 => h9) rfl (by decide +kernel) rfl rfl (Nat.le_of_ble_eq_true rfl) dX_clear_7 (fun H locs hP hD hS => ?_)
  have hP : va_P (dC, dI) cls2 (xw q cI cZ cG (a) (va_up (va_up (f) 0 (0)) 1 (0)) (w)) H := hP
  have hD : va_D A (xw q cI cZ cG (a) (va_up (va_up (f) 0 (0)) 1 (0)) (w)) := hD
  exact W.vret hx hb hr (fun t ht hW => ⟨⟨(a, va_up (va_up f 0 0) 1 0, w), rfl, rfl, by rw [ht]; exact hP, va_K.moved hW.alike hK, hD⟩, hS.F ht⟩) hS.2.2 dX_clear_10
def paBad (sy sp : Int32) : Prop := (¬ sy = 0 ∧ ¬ sy = 1) ∨ sp < 0 ∨ 1000000 < sp
set_option maxHeartbeats 4000000 in
set_option maxRecDepth 100000 in
/-- pattern(style, span) -/
theorem tX_pattern (l : Launch) (dC : Nat → ClassId) (dI : Nat → Nat → Nat) (q : Nat → Nat) (cI cZ cG : ClassId) (a : Nat → Nat → Int32) (f : Nat → Int32) (w : Nat → Nat → Int32) (sz : Nat) (sy sp : Int32)  : vx_Met l yX_pattern wX_pattern ({ frames := 6, cells := 1, slots := 6, locals := 90 }) (va_Pc [.ref (q 0), .int (sy), .int (sp)] (fun U => U.heap.size = sz ∧ va_P (dC, dI) cls2 (xw q cI cZ cG a f w) U.heap ∧ va_K (dC, dI) cls2 (xt cI cZ cG) U ∧ va_D (fun _ => True) (xw q cI cZ cG a f w) ∧ xE l (va_A (xw q cI cZ cG a f w) sz) U U.heap)) (va_Qv (fun (u : XS) => ¬ paBad sy sp ∧ u = (a, va_up (va_up (va_up f 2 sy) 3 sp) 4 0, w)) (atX dC dI q cI cZ cG (va_A (xw q cI cZ cG a f w) sz)) (va_A (xw q cI cZ cG a f w) sz)) (vx_X (fun u : XS => u = (a, f, w)) (fun E u t => (E = "java/lang/IllegalArgumentException" ∧ paBad sy sp) ∧ atX dC dI q cI cZ cG (va_A (xw q cI cZ cG a f w) sz) u t) (va_A (xw q cI cZ cG a f w) sz)) 1 6 (va_A (xw q cI cZ cG a f w) sz) := by
  refine vx_ofW (cc := cX_pattern) (maxL := 3) (ret := none) (by decide) rfl ?_
  intro p e s m args below meth c s₁ B hml hno hv
  obtain ⟨rfl, hsz, hP, hK, hD0, hE⟩ := hv
  have hx := B.exec
  have hb := B.bytes
  have hr := B.returns
  have hbw : ∀ w ∈ bw, w.before _ s = true := fun w h => atoms_spec (ws := wX_pattern) B.pre w (List.mem_cons_of_mem _ h)
  have hown : s.vm.findClass "EventPatterns" = some m.cls := findClass_of_methodNamed B.named
  have hlocks := B.notSynchronized
  subst hsz
  have hD := hD0.self (sz := s.heap.size)
  generalize hAe : va_A (xw q cI cZ cG a f w) s.heap.size = A at hD hE ⊢
  have hA : ∀ q : Nat, s.heap.size ≤ q → A q := fun q h => by rw [← hAe]; exact Or.inr h
  have hS : va_S A s.heap s.heap [] := va_S.rf
  have hl := lv_entry ([.ref (q 0), .int (sy), .int (sp)]) (n := 3) (Nat.le_of_ble_eq_true rfl)
  rw [lg_entry_eq]
  generalize (lg_sl ([.ref (q 0), .int (sy), .int (sp)]) ++ List.replicate (3 - (lg_sl ([.ref (q 0), .int (sy), .int (sp)])).length) Slot.unset).toArray = ls at hl ⊢
  have hl : lv_has ls 3 [(0, .ref (q 0)), (1, .int (sy)), (2, .int (sp))] := hl
  refine lv_iload_n hx hb dX_pattern_0 rfl (lv_at hl 1 rfl) ?_
  refine lv_if_eq (tgt := 19) hx hb dX_pattern_1 (by decide) (fun c_1 => ?_) (fun c_1 => ?_)
  · refine lv_iload_n hx hb dX_pattern_19 rfl (lv_at hl 2 rfl) ?_
    refine lv_if_lt (tgt := 29) hx hb dX_pattern_20 (by decide) (fun c_20 => ?_) (fun c_20 => ?_)
    · obtain ⟨sa, hstr⟩ := hE.2.2.2.2 (86, "no such span") (by decide)
      exact vx_throwS (text := "no such span") (names := ["java/lang/RuntimeException", "java/lang/Exception"]) hx hb hE.1 hown (by decide) (by decide) (hbw _ kl_X_67) (hbw _ ki_java_lang_IllegalArgumentException) hstr (xat_IAE hbw hE) xgd_IAE hE.2.1 hE.2.2.1 hS (hl.1.trans hml.symm) dX_pattern_29 dX_pattern_32 dX_pattern_33 dX_pattern_35 dX_pattern_38 (fun x hx => (hno x hx).elim) (Nat.le_of_ble_eq_true rfl) (Nat.le_of_ble_eq_true rfl) (Nat.le_of_ble_eq_true rfl) (Nat.le_of_ble_eq_true rfl) hlocks (fun t hal hle hkeep => ⟨(a, f, w), rfl, ⟨⟨rfl, by first | exact Or.inl ⟨c_1, c_6⟩ | exact Or.inr (Or.inl c_20) | exact Or.inr (Or.inr (Int32.not_le.mp c_26))⟩, hP.kept (fun k q hk => hkeep q.1 ((hP k q hk).lt)), va_K.moved hal hK, hD⟩, ⟨Nat.le_trans hS.1 hle, fun q h1 h2 => (hkeep q (Nat.lt_of_lt_of_le h1 hS.1)).trans (hS.2.1 q h1 h2)⟩⟩) hS.2.2 (Nat.le_of_ble_eq_true rfl) (Nat.le_of_ble_eq_true rfl)
    · refine lv_iload_n hx hb dX_pattern_23 rfl (lv_at hl 2 rfl) ?_
      refine lv_ldc (v := 1000000) hx hb hown (hbw _ kk_X_66) dX_pattern_24 ?_
      refine lv_icmp_le (tgt := 39) hx hb dX_pattern_26 (by decide) (fun c_26 => ?_) (fun c_26 => ?_)
      · refine lv_aload_n hx hb dX_pattern_39 rfl (lv_at hl 0 rfl) ?_
        refine lv_iload_n hx hb dX_pattern_40 rfl (lv_at hl 1 rfl) ?_
        refine va_put (D := (dC, dI)) (ci := 0) (v := .int (sy)) (ty := .int) (C := "EventPatterns") (T := TX) (N := 16) hx hb hbw inX tyX okX nmX hown hK hP hD hS 0 rfl rfl 9 (by decide) (hbw _ kf_X_50) (fun _ h9 => h9) rfl (by decide +kernel) rfl rfl (Nat.le_of_ble_eq_true rfl) dX_pattern_41 (fun H locs hP hD hS => ?_)
        have hP : va_P (dC, dI) cls2 (xw q cI cZ cG (a) (va_up (f) 2 (sy)) (w)) H := hP
        have hD : va_D A (xw q cI cZ cG (a) (va_up (f) 2 (sy)) (w)) := hD
        refine lv_aload_n hx hb dX_pattern_44 rfl (lv_at hl 0 rfl) ?_
        refine lv_iload_n hx hb dX_pattern_45 rfl (lv_at hl 2 rfl) ?_
        refine va_put (D := (dC, dI)) (ci := 0) (v := .int (sp)) (ty := .int) (C := "EventPatterns") (T := TX) (N := 16) hx hb hbw inX tyX okX nmX hown hK hP hD hS 0 rfl rfl 10 (by decide) (hbw _ kf_X_53) (fun _ h9 => h9) rfl (by decide +kernel) rfl rfl (Nat.le_of_ble_eq_true rfl) dX_pattern_46 (fun H locs hP hD hS => ?_)
        have hP : va_P (dC, dI) cls2 (xw q cI cZ cG (a) (va_up (va_up (f) 2 (sy)) 3 (sp)) (w)) H := hP
        have hD : va_D A (xw q cI cZ cG (a) (va_up (va_up (f) 2 (sy)) 3 (sp)) (w)) := hD
        refine lv_aload_n hx hb dX_pattern_49 rfl (lv_at hl 0 rfl) ?_
        refine lv_iconst (v := 0) hx hb dX_pattern_50 (by decide) ?_
        refine va_put (D := (dC, dI)) (ci := 0) (v := .int (0)) (ty := .int) (C := "EventPatterns") (T := TX) (N := 16) hx hb hbw inX tyX okX nmX hown hK hP hD hS 0 rfl rfl 11 (by decide) (hbw _ kf_X_56) (fun _ h9 => h9) rfl (by decide +kernel) rfl rfl (Nat.le_of_ble_eq_true rfl) dX_pattern_51 (fun H locs hP hD hS => ?_)
        have hP : va_P (dC, dI) cls2 (xw q cI cZ cG (a) (va_up (va_up (va_up (f) 2 (sy)) 3 (sp)) 4 (0)) (w)) H := hP
        have hD : va_D A (xw q cI cZ cG (a) (va_up (va_up (va_up (f) 2 (sy)) 3 (sp)) 4 (0)) (w)) := hD
        refine vx_ret ?_
        refine W.widen (k := 1) (n := 6) (by omega) (by omega) ?_
        exact W.vret hx hb hr (fun t ht hW => ⟨⟨(a, va_up (va_up (va_up f 2 sy) 3 sp) 4 0, w), rfl, ⟨by rintro (h | h | h) <;> first | exact h.1 c_1 | exact h.2 c_6 | exact c_20 h | exact absurd c_26 (Int32.not_le.mpr h), rfl⟩, by rw [ht]; exact hP, va_K.moved hW.alike hK, hD⟩, hS.F ht⟩) hS.2.2 dX_pattern_54
      · obtain ⟨sa, hstr⟩ := hE.2.2.2.2 (86, "no such span") (by decide)
        exact vx_throwS (text := "no such span") (names := ["java/lang/RuntimeException", "java/lang/Exception"]) hx hb hE.1 hown (by decide) (by decide) (hbw _ kl_X_67) (hbw _ ki_java_lang_IllegalArgumentException) hstr (xat_IAE hbw hE) xgd_IAE hE.2.1 hE.2.2.1 hS (hl.1.trans hml.symm) dX_pattern_29 dX_pattern_32 dX_pattern_33 dX_pattern_35 dX_pattern_38 (fun x hx => (hno x hx).elim) (Nat.le_of_ble_eq_true rfl) (Nat.le_of_ble_eq_true rfl) (Nat.le_of_ble_eq_true rfl) (Nat.le_of_ble_eq_true rfl) hlocks (fun t hal hle hkeep => ⟨(a, f, w), rfl, ⟨⟨rfl, by first | exact Or.inl ⟨c_1, c_6⟩ | exact Or.inr (Or.inl c_20) | exact Or.inr (Or.inr (Int32.not_le.mp c_26))⟩, hP.kept (fun k q hk => hkeep q.1 ((hP k q hk).lt)), va_K.moved hal hK, hD⟩, ⟨Nat.le_trans hS.1 hle, fun q h1 h2 => (hkeep q (Nat.lt_of_lt_of_le h1 hS.1)).trans (hS.2.1 q h1 h2)⟩⟩) hS.2.2 (Nat.le_of_ble_eq_true rfl) (Nat.le_of_ble_eq_true rfl)
  · refine lv_iload_n hx hb dX_pattern_4 rfl (lv_at hl 1 rfl) ?_
    refine lv_iconst (v := 1) hx hb dX_pattern_5 (by decide) ?_
    refine lv_icmp_eq (tgt := 19) hx hb dX_pattern_6 (by decide) (fun c_6 => ?_) (fun c_6 => ?_)
    · refine lv_iload_n hx hb dX_pattern_19 rfl (lv_at hl 2 rfl) ?_
      refine lv_if_lt (tgt := 29) hx hb dX_pattern_20 (by decide) (fun c_20 => ?_) (fun c_20 => ?_)
      · obtain ⟨sa, hstr⟩ := hE.2.2.2.2 (86, "no such span") (by decide)
        exact vx_throwS (text := "no such span") (names := ["java/lang/RuntimeException", "java/lang/Exception"]) hx hb hE.1 hown (by decide) (by decide) (hbw _ kl_X_67) (hbw _ ki_java_lang_IllegalArgumentException) hstr (xat_IAE hbw hE) xgd_IAE hE.2.1 hE.2.2.1 hS (hl.1.trans hml.symm) dX_pattern_29 dX_pattern_32 dX_pattern_33 dX_pattern_35 dX_pattern_38 (fun x hx => (hno x hx).elim) (Nat.le_of_ble_eq_true rfl) (Nat.le_of_ble_eq_true rfl) (Nat.le_of_ble_eq_true rfl) (Nat.le_of_ble_eq_true rfl) hlocks (fun t hal hle hkeep => ⟨(a, f, w), rfl, ⟨⟨rfl, by first | exact Or.inl ⟨c_1, c_6⟩ | exact Or.inr (Or.inl c_20) | exact Or.inr (Or.inr (Int32.not_le.mp c_26))⟩, hP.kept (fun k q hk => hkeep q.1 ((hP k q hk).lt)), va_K.moved hal hK, hD⟩, ⟨Nat.le_trans hS.1 hle, fun q h1 h2 => (hkeep q (Nat.lt_of_lt_of_le h1 hS.1)).trans (hS.2.1 q h1 h2)⟩⟩) hS.2.2 (Nat.le_of_ble_eq_true rfl) (Nat.le_of_ble_eq_true rfl)
      · refine lv_iload_n hx hb dX_pattern_23 rfl (lv_at hl 2 rfl) ?_
        refine lv_ldc (v := 1000000) hx hb hown (hbw _ kk_X_66) dX_pattern_24 ?_
        refine lv_icmp_le (tgt := 39) hx hb dX_pattern_26 (by decide) (fun c_26 => ?_) (fun c_26 => ?_)
        · refine lv_aload_n hx hb dX_pattern_39 rfl (lv_at hl 0 rfl) ?_
          refine lv_iload_n hx hb dX_pattern_40 rfl (lv_at hl 1 rfl) ?_
          refine va_put (D := (dC, dI)) (ci := 0) (v := .int (sy)) (ty := .int) (C := "EventPatterns") (T := TX) (N := 16) hx hb hbw inX tyX okX nmX hown hK hP hD hS 0 rfl rfl 9 (by decide) (hbw _ kf_X_50) (fun _ h9 => h9) rfl (by decide +kernel) rfl rfl (Nat.le_of_ble_eq_true rfl) dX_pattern_41 (fun H locs hP hD hS => ?_)
          have hP : va_P (dC, dI) cls2 (xw q cI cZ cG (a) (va_up (f) 2 (sy)) (w)) H := hP
          have hD : va_D A (xw q cI cZ cG (a) (va_up (f) 2 (sy)) (w)) := hD
          refine lv_aload_n hx hb dX_pattern_44 rfl (lv_at hl 0 rfl) ?_
          refine lv_iload_n hx hb dX_pattern_45 rfl (lv_at hl 2 rfl) ?_
          refine va_put (D := (dC, dI)) (ci := 0) (v := .int (sp)) (ty := .int) (C := "EventPatterns") (T := TX) (N := 16) hx hb hbw inX tyX okX nmX hown hK hP hD hS 0 rfl rfl 10 (by decide) (hbw _ kf_X_53) (fun _ h9 => h9) rfl (by decide +kernel) rfl rfl (Nat.le_of_ble_eq_true rfl) dX_pattern_46 (fun H locs hP hD hS => ?_)
          have hP : va_P (dC, dI) cls2 (xw q cI cZ cG (a) (va_up (va_up (f) 2 (sy)) 3 (sp)) (w)) H := hP
          have hD : va_D A (xw q cI cZ cG (a) (va_up (va_up (f) 2 (sy)) 3 (sp)) (w)) := hD
          refine lv_aload_n hx hb dX_pattern_49 rfl (lv_at hl 0 rfl) ?_
          refine lv_iconst (v := 0) hx hb dX_pattern_50 (by decide) ?_
          refine va_put (D := (dC, dI)) (ci := 0) (v := .int (0)) (ty := .int) (C := "EventPatterns") (T := TX) (N := 16) hx hb hbw inX tyX okX nmX hown hK hP hD hS 0 rfl rfl 11 (by decide) (hbw _ kf_X_56) (fun _ h9 => h9) rfl (by decide +kernel) rfl rfl (Nat.le_of_ble_eq_true rfl) dX_pattern_51 (fun H locs hP hD hS => ?_)
          have hP : va_P (dC, dI) cls2 (xw q cI cZ cG (a) (va_up (va_up (va_up (f) 2 (sy)) 3 (sp)) 4 (0)) (w)) H := hP
          have hD : va_D A (xw q cI cZ cG (a) (va_up (va_up (va_up (f) 2 (sy)) 3 (sp)) 4 (0)) (w)) := hD
          refine vx_ret ?_
          refine W.widen (k := 1) (n := 6) (by omega) (by omega) ?_
          exact W.vret hx hb hr (fun t ht hW => ⟨⟨(a, va_up (va_up (va_up f 2 sy) 3 sp) 4 0, w), rfl, ⟨by rintro (h | h | h) <;> first | exact h.1 c_1 | exact h.2 c_6 | exact c_20 h | exact absurd c_26 (Int32.not_le.mpr h), rfl⟩, by rw [ht]; exact hP, va_K.moved hW.alike hK, hD⟩, hS.F ht⟩) hS.2.2 dX_pattern_54
        · obtain ⟨sa, hstr⟩ := hE.2.2.2.2 (86, "no such span") (by decide)
          exact vx_throwS (text := "no such span") (names := ["java/lang/RuntimeException", "java/lang/Exception"]) hx hb hE.1 hown (by decide) (by decide) (hbw _ kl_X_67) (hbw _ ki_java_lang_IllegalArgumentException) hstr (xat_IAE hbw hE) xgd_IAE hE.2.1 hE.2.2.1 hS (hl.1.trans hml.symm) dX_pattern_29 dX_pattern_32 dX_pattern_33 dX_pattern_35 dX_pattern_38 (fun x hx => (hno x hx).elim) (Nat.le_of_ble_eq_true rfl) (Nat.le_of_ble_eq_true rfl) (Nat.le_of_ble_eq_true rfl) (Nat.le_of_ble_eq_true rfl) hlocks (fun t hal hle hkeep => ⟨(a, f, w), rfl, ⟨⟨rfl, by first | exact Or.inl ⟨c_1, c_6⟩ | exact Or.inr (Or.inl c_20) | exact Or.inr (Or.inr (Int32.not_le.mp c_26))⟩, hP.kept (fun k q hk => hkeep q.1 ((hP k q hk).lt)), va_K.moved hal hK, hD⟩, ⟨Nat.le_trans hS.1 hle, fun q h1 h2 => (hkeep q (Nat.lt_of_lt_of_le h1 hS.1)).trans (hS.2.1 q h1 h2)⟩⟩) hS.2.2 (Nat.le_of_ble_eq_true rfl) (Nat.le_of_ble_eq_true rfl)
    · obtain ⟨sa, hstr⟩ := hE.2.2.2.2 (84, "no such style") (by decide)
      exact vx_throwS (text := "no such style") (names := ["java/lang/RuntimeException", "java/lang/Exception"]) hx hb hE.1 hown (by decide) (by decide) (hbw _ kl_X_67) (hbw _ ki_java_lang_IllegalArgumentException) hstr (xat_IAE hbw hE) xgd_IAE hE.2.1 hE.2.2.1 hS (hl.1.trans hml.symm) dX_pattern_9 dX_pattern_12 dX_pattern_13 dX_pattern_15 dX_pattern_18 (fun x hx => (hno x hx).elim) (Nat.le_of_ble_eq_true rfl) (Nat.le_of_ble_eq_true rfl) (Nat.le_of_ble_eq_true rfl) (Nat.le_of_ble_eq_true rfl) hlocks (fun t hal hle hkeep => ⟨(a, f, w), rfl, ⟨⟨rfl, by first | exact Or.inl ⟨c_1, c_6⟩ | exact Or.inr (Or.inl c_20) | exact Or.inr (Or.inr (Int32.not_le.mp c_26))⟩, hP.kept (fun k q hk => hkeep q.1 ((hP k q hk).lt)), va_K.moved hal hK, hD⟩, ⟨Nat.le_trans hS.1 hle, fun q h1 h2 => (hkeep q (Nat.lt_of_lt_of_le h1 hS.1)).trans (hS.2.1 q h1 h2)⟩⟩) hS.2.2 (Nat.le_of_ble_eq_true rfl) (Nat.le_of_ble_eq_true rfl)
def stBad (ki te : Int32) : Prop := ki < 1 ∨ 255 < ki ∨ te < 0 ∨ 4 < te
set_option maxHeartbeats 4000000 in
set_option maxRecDepth 100000 in
/-- step(kinds, test, n, many) -/
theorem tX_step (l : Launch) (dC : Nat → ClassId) (dI : Nat → Nat → Nat) (q : Nat → Nat) (cI cZ cG : ClassId) (a : Nat → Nat → Int32) (f : Nat → Int32) (w : Nat → Nat → Int32) (sz : Nat) (ms : Nat) (ki te nn mb : Int32) (hm : ms ≤ 5) (hf4 : f 4 = nI ms) : vx_Met l yX_step wX_step ({ frames := 6, cells := 1, slots := 6, locals := 90 }) (va_Pc [.ref (q 0), .int (ki), .int (te), .int (nn), .int (mb)] (fun U => U.heap.size = sz ∧ va_P (dC, dI) cls2 (xw q cI cZ cG a f w) U.heap ∧ va_K (dC, dI) cls2 (xt cI cZ cG) U ∧ va_D (fun _ => True) (xw q cI cZ cG a f w) ∧ xE l (va_A (xw q cI cZ cG a f w) sz) U U.heap)) (va_Qi (fun (r0 : Int32) (u : XS) => (¬ stBad ki te ∧ ms < 5) ∧ r0 = nI ms ∧ u = (va_up (va_up (va_up (va_up a 3 (upd (a 3) ms ki)) 4 (upd (a 4) ms te)) 5 (upd (a 5) ms nn)) 6 (upd (a 6) ms (vp_nar .boolean mb)), va_up f 4 (nI (ms + 1)), w)) (atX dC dI q cI cZ cG (va_A (xw q cI cZ cG a f w) sz)) (va_A (xw q cI cZ cG a f w) sz)) (vx_X (fun u : XS => u = (a, f, w)) (fun E u t => (E = "java/lang/IllegalArgumentException" ∧ stBad ki te ∨ E = "java/lang/UnsupportedOperationException" ∧ ¬ stBad ki te ∧ ms = 5) ∧ atX dC dI q cI cZ cG (va_A (xw q cI cZ cG a f w) sz) u t) (va_A (xw q cI cZ cG a f w) sz)) 1 6 (va_A (xw q cI cZ cG a f w) sz) := by
  refine vx_ofW (cc := cX_step) (maxL := 5) (ret := (some .int)) (by decide) rfl ?_
  intro p e s m args below meth c s₁ B hml hno hv
  obtain ⟨rfl, hsz, hP, hK, hD0, hE⟩ := hv
  have hx := B.exec
  have hb := B.bytes
  have hr := B.returns
  have hbw : ∀ w ∈ bw, w.before _ s = true := fun w h => atoms_spec (ws := wX_step) B.pre w (List.mem_cons_of_mem _ h)
  have hown : s.vm.findClass "EventPatterns" = some m.cls := findClass_of_methodNamed B.named
  have hlocks := B.notSynchronized
  subst hsz
  have hD := hD0.self (sz := s.heap.size)
  generalize hAe : va_A (xw q cI cZ cG a f w) s.heap.size = A at hD hE ⊢
  have hA : ∀ q : Nat, s.heap.size ≤ q → A q := fun q h => by rw [← hAe]; exact Or.inr h
  have hS : va_S A s.heap s.heap [] := va_S.rf
  have hl := lv_entry ([.ref (q 0), .int (ki), .int (te), .int (nn), .int (mb)]) (n := 5) (Nat.le_of_ble_eq_true rfl)
  rw [lg_entry_eq]
  generalize (lg_sl ([.ref (q 0), .int (ki), .int (te), .int (nn), .int (mb)]) ++ List.replicate (5 - (lg_sl ([.ref (q 0), .int (ki), .int (te), .int (nn), .int (mb)])).length) Slot.unset).toArray = ls at hl ⊢
  have hl : lv_has ls 5 [(0, .ref (q 0)), (1, .int (ki)), (2, .int (te)), (3, .int (nn)), (4, .int (mb))] := hl
  refine lv_iload_n hx hb dX_step_0 rfl (lv_at hl 1 rfl) ?_
  refine lv_iconst (v := 1) hx hb dX_step_1 (by decide) ?_
  refine lv_icmp_lt (tgt := 12) hx hb dX_step_2 (by decide) (fun c_2 => ?_) (fun c_2 => ?_)
  · obtain ⟨sa, hstr⟩ := hE.2.2.2.2 (88, "no such kinds") (by decide)
    exact vx_throwS (text := "no such kinds") (names := ["java/lang/RuntimeException", "java/lang/Exception"]) hx hb hE.1 hown (by decide) (by decide) (hbw _ kl_X_67) (hbw _ ki_java_lang_IllegalArgumentException) hstr (xat_IAE hbw hE) xgd_IAE hE.2.1 hE.2.2.1 hS (hl.1.trans hml.symm) dX_step_12 dX_step_15 dX_step_16 dX_step_18 dX_step_21 (fun x hx => (hno x hx).elim) (Nat.le_of_ble_eq_true rfl) (Nat.le_of_ble_eq_true rfl) (Nat.le_of_ble_eq_true rfl) (Nat.le_of_ble_eq_true rfl) hlocks (fun t hal hle hkeep => ⟨(a, f, w), rfl, ⟨Or.inl ⟨rfl, by first | exact Or.inl c_2 | exact Or.inr (Or.inl (Int32.not_le.mp c_9)) | exact Or.inr (Or.inr (Or.inl c_23)) | exact Or.inr (Or.inr (Or.inr (Int32.not_le.mp c_28)))⟩, hP.kept (fun k q hk => hkeep q.1 ((hP k q hk).lt)), va_K.moved hal hK, hD⟩, ⟨Nat.le_trans hS.1 hle, fun q h1 h2 => (hkeep q (Nat.lt_of_lt_of_le h1 hS.1)).trans (hS.2.1 q h1 h2)⟩⟩) hS.2.2 (Nat.le_of_ble_eq_true rfl) (Nat.le_of_ble_eq_true rfl)
  · refine lv_iload_n hx hb dX_step_5 rfl (lv_at hl 1 rfl) ?_
    refine lv_sipush (v := 255) hx hb dX_step_6 (by decide) ?_
    refine lv_icmp_le (tgt := 22) hx hb dX_step_9 (by decide) (fun c_9 => ?_) (fun c_9 => ?_)
    · refine lv_iload_n hx hb dX_step_22 rfl (lv_at hl 2 rfl) ?_
      refine lv_if_lt (tgt := 31) hx hb dX_step_23 (by decide) (fun c_23 => ?_) (fun c_23 => ?_)
      · obtain ⟨sa, hstr⟩ := hE.2.2.2.2 (90, "no such test") (by decide)
        exact vx_throwS (text := "no such test") (names := ["java/lang/RuntimeException", "java/lang/Exception"]) hx hb hE.1 hown (by decide) (by decide) (hbw _ kl_X_67) (hbw _ ki_java_lang_IllegalArgumentException) hstr (xat_IAE hbw hE) xgd_IAE hE.2.1 hE.2.2.1 hS (hl.1.trans hml.symm) dX_step_31 dX_step_34 dX_step_35 dX_step_37 dX_step_40 (fun x hx => (hno x hx).elim) (Nat.le_of_ble_eq_true rfl) (Nat.le_of_ble_eq_true rfl) (Nat.le_of_ble_eq_true rfl) (Nat.le_of_ble_eq_true rfl) hlocks (fun t hal hle hkeep => ⟨(a, f, w), rfl, ⟨Or.inl ⟨rfl, by first | exact Or.inl c_2 | exact Or.inr (Or.inl (Int32.not_le.mp c_9)) | exact Or.inr (Or.inr (Or.inl c_23)) | exact Or.inr (Or.inr (Or.inr (Int32.not_le.mp c_28)))⟩, hP.kept (fun k q hk => hkeep q.1 ((hP k q hk).lt)), va_K.moved hal hK, hD⟩, ⟨Nat.le_trans hS.1 hle, fun q h1 h2 => (hkeep q (Nat.lt_of_lt_of_le h1 hS.1)).trans (hS.2.1 q h1 h2)⟩⟩) hS.2.2 (Nat.le_of_ble_eq_true rfl) (Nat.le_of_ble_eq_true rfl)
      · refine lv_iload_n hx hb dX_step_26 rfl (lv_at hl 2 rfl) ?_
        refine lv_iconst (v := 4) hx hb dX_step_27 (by decide) ?_
        refine lv_icmp_le (tgt := 41) hx hb dX_step_28 (by decide) (fun c_28 => ?_) (fun c_28 => ?_)
        · refine lv_aload_n hx hb dX_step_41 rfl (lv_at hl 0 rfl) ?_
          refine va_get (D := (dC, dI)) (ci := 0) (v := .int (nI (ms))) (C := "EventPatterns") (T := TX) (N := 16) hx hb hbw inX hown hK hP 0 rfl rfl 11 (by decide) (hbw _ kf_X_56) (fun _ h9 => h9) (congrArg (fun z => some (Value.int z)) (hf4)) dX_step_42 ?_
          refine lv_iconst (v := 5) hx hb dX_step_45 (by decide) ?_
          refine nr_icmp_lt (tgt := 59) hx hb (a1 := ms) (b1 := 5) (by omega) (by omega) dX_step_46 (by decide) (fun c_46 => ?_) (fun c_46 => ?_)
          · refine lv_aload_n hx hb dX_step_59 rfl (lv_at hl 0 rfl) ?_
            refine va_get (D := (dC, dI)) (ci := 0) (v := .ref (q 4)) (C := "EventPatterns") (T := TX) (N := 16) hx hb hbw inX hown hK hP 0 rfl rfl 5 (by decide) (hbw _ kf_X_19) (fun _ h9 => h9) rfl dX_step_60 ?_
            refine lv_aload_n hx hb dX_step_63 rfl (lv_at hl 0 rfl) ?_
            refine va_get (D := (dC, dI)) (ci := 0) (v := .int (nI (ms))) (C := "EventPatterns") (T := TX) (N := 16) hx hb hbw inX hown hK hP 0 rfl rfl 11 (by decide) (hbw _ kf_X_56) (fun _ h9 => h9) (congrArg (fun z => some (Value.int z)) (hf4)) dX_step_64 ?_
            refine lv_iload_n hx hb dX_step_67 rfl (lv_at hl 1 rfl) ?_
            refine nr_iast hx hb hK hP hD hS 4 0 rfl rfl (j := ms) (by omega) (by decide) dX_step_68 (fun H locs hP hD hS => ?_)
            have hP : va_P (dC, dI) cls2 (xw q cI cZ cG (va_up (a) 3 (upd (a 3) (ms) (ki))) (f) (w)) H := hP
            have hD : va_D A (xw q cI cZ cG (va_up (a) 3 (upd (a 3) (ms) (ki))) (f) (w)) := hD
            refine lv_aload_n hx hb dX_step_69 rfl (lv_at hl 0 rfl) ?_
            refine va_get (D := (dC, dI)) (ci := 0) (v := .ref (q 5)) (C := "EventPatterns") (T := TX) (N := 16) hx hb hbw inX hown hK hP 0 rfl rfl 6 (by decide) (hbw _ kf_X_22) (fun _ h9 => h9) rfl dX_step_70 ?_
            refine lv_aload_n hx hb dX_step_73 rfl (lv_at hl 0 rfl) ?_
            refine va_get (D := (dC, dI)) (ci := 0) (v := .int (nI (ms))) (C := "EventPatterns") (T := TX) (N := 16) hx hb hbw inX hown hK hP 0 rfl rfl 11 (by decide) (hbw _ kf_X_56) (fun _ h9 => h9) (congrArg (fun z => some (Value.int z)) (hf4)) dX_step_74 ?_
            refine lv_iload_n hx hb dX_step_77 rfl (lv_at hl 2 rfl) ?_
            refine nr_iast hx hb hK hP hD hS 5 0 rfl rfl (j := ms) (by omega) (by decide) dX_step_78 (fun H locs hP hD hS => ?_)
            have hP : va_P (dC, dI) cls2 (xw q cI cZ cG (va_up (va_up (a) 3 (upd (a 3) (ms) (ki))) 4 (upd (a 4) (ms) (te))) (f) (w)) H := hP
            have hD : va_D A (xw q cI cZ cG (va_up (va_up (a) 3 (upd (a 3) (ms) (ki))) 4 (upd (a 4) (ms) (te))) (f) (w)) := hD
            refine lv_aload_n hx hb dX_step_79 rfl (lv_at hl 0 rfl) ?_
            refine va_get (D := (dC, dI)) (ci := 0) (v := .ref (q 6)) (C := "EventPatterns") (T := TX) (N := 16) hx hb hbw inX hown hK hP 0 rfl rfl 7 (by decide) (hbw _ kf_X_25) (fun _ h9 => h9) rfl dX_step_80 ?_
            refine lv_aload_n hx hb dX_step_83 rfl (lv_at hl 0 rfl) ?_
            refine va_get (D := (dC, dI)) (ci := 0) (v := .int (nI (ms))) (C := "EventPatterns") (T := TX) (N := 16) hx hb hbw inX hown hK hP 0 rfl rfl 11 (by decide) (hbw _ kf_X_56) (fun _ h9 => h9) (congrArg (fun z => some (Value.int z)) (hf4)) dX_step_84 ?_
            refine lv_iload_n hx hb dX_step_87 rfl (lv_at hl 3 rfl) ?_
            refine nr_iast hx hb hK hP hD hS 6 0 rfl rfl (j := ms) (by omega) (by decide) dX_step_88 (fun H locs hP hD hS => ?_)
            have hP : va_P (dC, dI) cls2 (xw q cI cZ cG (va_up (va_up (va_up (a) 3 (upd (a 3) (ms) (ki))) 4 (upd (a 4) (ms) (te))) 5 (upd (a 5) (ms) (nn))) (f) (w)) H := hP
            have hD : va_D A (xw q cI cZ cG (va_up (va_up (va_up (a) 3 (upd (a 3) (ms) (ki))) 4 (upd (a 4) (ms) (te))) 5 (upd (a 5) (ms) (nn))) (f) (w)) := hD
            refine lv_aload_n hx hb dX_step_89 rfl (lv_at hl 0 rfl) ?_
            refine va_get (D := (dC, dI)) (ci := 0) (v := .ref (q 7)) (C := "EventPatterns") (T := TX) (N := 16) hx hb hbw inX hown hK hP 0 rfl rfl 8 (by decide) (hbw _ kf_X_28) (fun _ h9 => h9) rfl dX_step_90 ?_
            refine lv_aload_n hx hb dX_step_93 rfl (lv_at hl 0 rfl) ?_
            refine va_get (D := (dC, dI)) (ci := 0) (v := .int (nI (ms))) (C := "EventPatterns") (T := TX) (N := 16) hx hb hbw inX hown hK hP 0 rfl rfl 11 (by decide) (hbw _ kf_X_56) (fun _ h9 => h9) (congrArg (fun z => some (Value.int z)) (hf4)) dX_step_94 ?_
            refine lv_iload hx hb dX_step_97 (lv_at hl 4 rfl) ?_
            refine nr_zast hx hb hK hP hD hS 7 1 rfl rfl (j := ms) (by omega) (by decide) dX_step_99 (fun H locs hP hD hS => ?_)
            have hP : va_P (dC, dI) cls2 (xw q cI cZ cG (va_up (va_up (va_up (va_up (a) 3 (upd (a 3) (ms) (ki))) 4 (upd (a 4) (ms) (te))) 5 (upd (a 5) (ms) (nn))) 6 (upd (a 6) (ms) (vp_nar .boolean (mb)))) (f) (w)) H := hP
            have hD : va_D A (xw q cI cZ cG (va_up (va_up (va_up (va_up (a) 3 (upd (a 3) (ms) (ki))) 4 (upd (a 4) (ms) (te))) 5 (upd (a 5) (ms) (nn))) 6 (upd (a 6) (ms) (vp_nar .boolean (mb)))) (f) (w)) := hD
            refine lv_aload_n hx hb dX_step_100 rfl (lv_at hl 0 rfl) ?_
            refine lv_dup hx hb dX_step_101 rfl ?_
            refine va_get (D := (dC, dI)) (ci := 0) (v := .int (nI (ms))) (C := "EventPatterns") (T := TX) (N := 16) hx hb hbw inX hown hK hP 0 rfl rfl 11 (by decide) (hbw _ kf_X_56) (fun _ h9 => h9) (congrArg (fun z => some (Value.int z)) (hf4)) dX_step_102 ?_
            refine lv_iconst (v := 1) hx hb dX_step_105 (by decide) ?_
            refine nr_iadd hx hb (a1 := ms) (b1 := 1) dX_step_106 ?_
            refine va_put (D := (dC, dI)) (ci := 0) (v := .int (nI (ms + 1))) (ty := .int) (C := "EventPatterns") (T := TX) (N := 16) hx hb hbw inX tyX okX nmX hown hK hP hD hS 0 rfl rfl 11 (by decide) (hbw _ kf_X_56) (fun _ h9 => h9) rfl (by decide +kernel) rfl rfl (Nat.le_of_ble_eq_true rfl) dX_step_107 (fun H locs hP hD hS => ?_)
            have hP : va_P (dC, dI) cls2 (xw q cI cZ cG (va_up (va_up (va_up (va_up (a) 3 (upd (a 3) (ms) (ki))) 4 (upd (a 4) (ms) (te))) 5 (upd (a 5) (ms) (nn))) 6 (upd (a 6) (ms) (vp_nar .boolean (mb)))) (va_up (f) 4 (nI (ms + 1))) (w)) H := hP
            have hD : va_D A (xw q cI cZ cG (va_up (va_up (va_up (va_up (a) 3 (upd (a 3) (ms) (ki))) 4 (upd (a 4) (ms) (te))) 5 (upd (a 5) (ms) (nn))) 6 (upd (a 6) (ms) (vp_nar .boolean (mb)))) (va_up (f) 4 (nI (ms + 1))) (w)) := hD
            refine lv_aload_n hx hb dX_step_110 rfl (lv_at hl 0 rfl) ?_
            refine va_get (D := (dC, dI)) (ci := 0) (v := .int (nI (ms + 1))) (C := "EventPatterns") (T := TX) (N := 16) hx hb hbw inX hown hK hP 0 rfl rfl 11 (by decide) (hbw _ kf_X_56) (fun _ h9 => h9) rfl dX_step_111 ?_
            refine lv_iconst (v := 1) hx hb dX_step_114 (by decide) ?_
            refine nr_isub hx hb (a1 := ms + 1) (b1 := 1) (by omega) dX_step_115 ?_
            refine vx_ret ?_
            refine W.widen (k := 1) (n := 6) (by omega) (by omega) ?_
            exact W.iret (v := nI ((ms + 1) - 1)) hx hb hr (fun t ht hW => ⟨⟨nI ((ms + 1) - 1), (va_up (va_up (va_up (va_up a 3 (upd (a 3) ms ki)) 4 (upd (a 4) ms te)) 5 (upd (a 5) ms nn)) 6 (upd (a 6) ms (vp_nar .boolean mb)), va_up f 4 (nI (ms + 1)), w), rfl, ⟨⟨by rintro (h | h | h | h) <;> first | exact c_2 h | exact absurd c_9 (Int32.not_le.mpr h) | exact c_23 h | exact absurd c_28 (Int32.not_le.mpr h), by omega⟩, by rw [Nat.add_sub_cancel], rfl⟩, by rw [ht]; exact hP, va_K.moved hW.alike hK, hD⟩, hS.F ht⟩) hS.2.2 dX_step_116
          · obtain ⟨sa, hstr⟩ := hE.2.2.2.2 (92, "no room for more steps") (by decide)
            exact vx_throwS (text := "no room for more steps") (names := ["java/lang/RuntimeException", "java/lang/Exception"]) hx hb hE.1 hown (by decide) (by decide) (hbw _ kl_X_76) (hbw _ ki_java_lang_UnsupportedOperationException) hstr (xat_UOE hbw hE) xgd_UOE hE.2.1 hE.2.2.1 hS (hl.1.trans hml.symm) dX_step_49 dX_step_52 dX_step_53 dX_step_55 dX_step_58 (fun x hx => (hno x hx).elim) (Nat.le_of_ble_eq_true rfl) (Nat.le_of_ble_eq_true rfl) (Nat.le_of_ble_eq_true rfl) (Nat.le_of_ble_eq_true rfl) hlocks (fun t hal hle hkeep => ⟨(a, f, w), rfl, ⟨Or.inr ⟨rfl, by rintro (h | h | h | h) <;> first | exact c_2 h | exact absurd c_9 (Int32.not_le.mpr h) | exact c_23 h | exact absurd c_28 (Int32.not_le.mpr h), by omega⟩, hP.kept (fun k q hk => hkeep q.1 ((hP k q hk).lt)), va_K.moved hal hK, hD⟩, ⟨Nat.le_trans hS.1 hle, fun q h1 h2 => (hkeep q (Nat.lt_of_lt_of_le h1 hS.1)).trans (hS.2.1 q h1 h2)⟩⟩) hS.2.2 (Nat.le_of_ble_eq_true rfl) (Nat.le_of_ble_eq_true rfl)
        · obtain ⟨sa, hstr⟩ := hE.2.2.2.2 (90, "no such test") (by decide)
          exact vx_throwS (text := "no such test") (names := ["java/lang/RuntimeException", "java/lang/Exception"]) hx hb hE.1 hown (by decide) (by decide) (hbw _ kl_X_67) (hbw _ ki_java_lang_IllegalArgumentException) hstr (xat_IAE hbw hE) xgd_IAE hE.2.1 hE.2.2.1 hS (hl.1.trans hml.symm) dX_step_31 dX_step_34 dX_step_35 dX_step_37 dX_step_40 (fun x hx => (hno x hx).elim) (Nat.le_of_ble_eq_true rfl) (Nat.le_of_ble_eq_true rfl) (Nat.le_of_ble_eq_true rfl) (Nat.le_of_ble_eq_true rfl) hlocks (fun t hal hle hkeep => ⟨(a, f, w), rfl, ⟨Or.inl ⟨rfl, by first | exact Or.inl c_2 | exact Or.inr (Or.inl (Int32.not_le.mp c_9)) | exact Or.inr (Or.inr (Or.inl c_23)) | exact Or.inr (Or.inr (Or.inr (Int32.not_le.mp c_28)))⟩, hP.kept (fun k q hk => hkeep q.1 ((hP k q hk).lt)), va_K.moved hal hK, hD⟩, ⟨Nat.le_trans hS.1 hle, fun q h1 h2 => (hkeep q (Nat.lt_of_lt_of_le h1 hS.1)).trans (hS.2.1 q h1 h2)⟩⟩) hS.2.2 (Nat.le_of_ble_eq_true rfl) (Nat.le_of_ble_eq_true rfl)
    · obtain ⟨sa, hstr⟩ := hE.2.2.2.2 (88, "no such kinds") (by decide)
      exact vx_throwS (text := "no such kinds") (names := ["java/lang/RuntimeException", "java/lang/Exception"]) hx hb hE.1 hown (by decide) (by decide) (hbw _ kl_X_67) (hbw _ ki_java_lang_IllegalArgumentException) hstr (xat_IAE hbw hE) xgd_IAE hE.2.1 hE.2.2.1 hS (hl.1.trans hml.symm) dX_step_12 dX_step_15 dX_step_16 dX_step_18 dX_step_21 (fun x hx => (hno x hx).elim) (Nat.le_of_ble_eq_true rfl) (Nat.le_of_ble_eq_true rfl) (Nat.le_of_ble_eq_true rfl) (Nat.le_of_ble_eq_true rfl) hlocks (fun t hal hle hkeep => ⟨(a, f, w), rfl, ⟨Or.inl ⟨rfl, by first | exact Or.inl c_2 | exact Or.inr (Or.inl (Int32.not_le.mp c_9)) | exact Or.inr (Or.inr (Or.inl c_23)) | exact Or.inr (Or.inr (Or.inr (Int32.not_le.mp c_28)))⟩, hP.kept (fun k q hk => hkeep q.1 ((hP k q hk).lt)), va_K.moved hal hK, hD⟩, ⟨Nat.le_trans hS.1 hle, fun q h1 h2 => (hkeep q (Nat.lt_of_lt_of_le h1 hS.1)).trans (hS.2.1 q h1 h2)⟩⟩) hS.2.2 (Nat.le_of_ble_eq_true rfl) (Nat.le_of_ble_eq_true rfl)
set_option maxHeartbeats 4000000 in
set_option maxRecDepth 100000 in
/-- needSteps() -/
theorem tX_needSteps (l : Launch) (dC : Nat → ClassId) (dI : Nat → Nat → Nat) (q : Nat → Nat) (cI cZ cG : ClassId) (a : Nat → Nat → Int32) (f : Nat → Int32) (w : Nat → Nat → Int32) (sz : Nat) (ms : Nat) (hm : ms ≤ 5) (hf4 : f 4 = nI ms) : vx_Met l yX_needSteps wX_needSteps ({ frames := 6, cells := 1, slots := 6, locals := 90 }) (va_Pc [.ref (q 0)] (fun U => U.heap.size = sz ∧ va_P (dC, dI) cls2 (xw q cI cZ cG a f w) U.heap ∧ va_K (dC, dI) cls2 (xt cI cZ cG) U ∧ va_D (fun _ => True) (xw q cI cZ cG a f w) ∧ xE l (va_A (xw q cI cZ cG a f w) sz) U U.heap)) (va_Qv (fun (u : XS) => 1 ≤ ms ∧ u = (a, f, w)) (atX dC dI q cI cZ cG (va_A (xw q cI cZ cG a f w) sz)) (va_A (xw q cI cZ cG a f w) sz)) (vx_X (fun u : XS => u = (a, f, w)) (fun E u t => (E = "java/lang/IllegalStateException" ∧ ms = 0) ∧ atX dC dI q cI cZ cG (va_A (xw q cI cZ cG a f w) sz) u t) (va_A (xw q cI cZ cG a f w) sz)) 1 6 (va_A (xw q cI cZ cG a f w) sz) := by
  refine vx_ofW (cc := cX_needSteps) (maxL := 1) (ret := none) (by decide) rfl ?_
  intro p e s m args below meth c s₁ B hml hno hv
  obtain ⟨rfl, hsz, hP, hK, hD0, hE⟩ := hv
  have hx := B.exec
  have hb := B.bytes
  have hr := B.returns
  have hbw : ∀ w ∈ bw, w.before _ s = true := fun w h => atoms_spec (ws := wX_needSteps) B.pre w (List.mem_cons_of_mem _ h)
  have hown : s.vm.findClass "EventPatterns" = some m.cls := findClass_of_methodNamed B.named
  have hlocks := B.notSynchronized
  subst hsz
  have hD := hD0.self (sz := s.heap.size)
  generalize hAe : va_A (xw q cI cZ cG a f w) s.heap.size = A at hD hE ⊢
  have hA : ∀ q : Nat, s.heap.size ≤ q → A q := fun q h => by rw [← hAe]; exact Or.inr h
  have hS : va_S A s.heap s.heap [] := va_S.rf
  have hl := lv_entry ([.ref (q 0)]) (n := 1) (Nat.le_of_ble_eq_true rfl)
  rw [lg_entry_eq]
  generalize (lg_sl ([.ref (q 0)]) ++ List.replicate (1 - (lg_sl ([.ref (q 0)])).length) Slot.unset).toArray = ls at hl ⊢
  have hl : lv_has ls 1 [(0, .ref (q 0))] := hl
  refine lv_aload_n hx hb dX_needSteps_0 rfl (lv_at hl 0 rfl) ?_
  refine va_get (D := (dC, dI)) (ci := 0) (v := .int (nI (ms))) (C := "EventPatterns") (T := TX) (N := 16) hx hb hbw inX hown hK hP 0 rfl rfl 11 (by decide) (hbw _ kf_X_56) (fun _ h9 => h9) (congrArg (fun z => some (Value.int z)) (hf4)) dX_needSteps_1 ?_
  refine nr_if_ne (tgt := 17) hx hb (a1 := ms) (by omega) dX_needSteps_4 (by decide) (fun c_4 => ?_) (fun c_4 => ?_)
  · refine vx_ret ?_
    refine W.widen (k := 1) (n := 6) (by omega) (by omega) ?_
    exact W.vret hx hb hr (fun t ht hW => ⟨⟨(a, f, w), rfl, ⟨by omega, rfl⟩, by rw [ht]; exact hP, va_K.moved hW.alike hK, hD⟩, hS.F ht⟩) hS.2.2 dX_needSteps_17
  · obtain ⟨sa, hstr⟩ := hE.2.2.2.2 (114, "the pattern has no steps") (by decide)
    exact vx_throwS (text := "the pattern has no steps") (names := ["java/lang/RuntimeException", "java/lang/Exception"]) hx hb hE.1 hown (by decide) (by decide) (hbw _ kl_X_112) (hbw _ ki_java_lang_IllegalStateException) hstr (xat_ISE hbw hE) xgd_ISE hE.2.1 hE.2.2.1 hS (hl.1.trans hml.symm) dX_needSteps_7 dX_needSteps_10 dX_needSteps_11 dX_needSteps_13 dX_needSteps_16 (fun x hx => (hno x hx).elim) (Nat.le_of_ble_eq_true rfl) (Nat.le_of_ble_eq_true rfl) (Nat.le_of_ble_eq_true rfl) (Nat.le_of_ble_eq_true rfl) hlocks (fun t hal hle hkeep => ⟨(a, f, w), rfl, ⟨⟨rfl, by omega⟩, hP.kept (fun k q hk => hkeep q.1 ((hP k q hk).lt)), va_K.moved hal hK, hD⟩, ⟨Nat.le_trans hS.1 hle, fun q h1 h2 => (hkeep q (Nat.lt_of_lt_of_le h1 hS.1)).trans (hS.2.1 q h1 h2)⟩⟩) hS.2.2 (Nat.le_of_ble_eq_true rfl) (Nat.le_of_ble_eq_true rfl)
def xDropS (a : Nat → Nat → Int32) (pl : Nat) : Nat → Nat → Int32 := va_up (va_up (va_up a 0 (upd (a 0) (pl - 1) (a 0 pl))) 1 (upd (a 1) (pl - 1) (a 1 pl))) 2 (upd (a 2) (pl - 1) (a 2 pl))
def xDropL : Nat → Nat → (Nat → Nat → Int32) → (Nat → Nat → Int32)
  | 0, _, a => a
  | k + 1, pl, a => if pl < 16 then xDropL k (pl + 1) (xDropS a pl) else a
theorem xDropL_out {k pl : Nat} {a : Nat → Nat → Int32} (h : 16 ≤ pl) : xDropL (k + 1) pl a = a := by rw [xDropL, if_neg (by omega)]
theorem xDropL_in {k pl : Nat} {a : Nat → Nat → Int32} (hk : 1 ≤ k) (h : pl < 16) : xDropL (k + 1) pl a = xDropL (k - 1 + 1) (pl + 1) (xDropS a pl) := by rw [xDropL, if_pos h, show k - 1 + 1 = k by omega]
set_option maxHeartbeats 4000000 in
set_option maxRecDepth 100000 in
theorem lX_dropOldest (l : Launch) (dC : Nat → ClassId) (dI : Nat → Nat → Nat) (q : Nat → Nat) (cI cZ cG : ClassId) (f : Nat → Int32) (w : Nat → Nat → Int32) {p : Program} {e : Env} {s : State} {m : MethodId} {args : Array Value} {below : List Frame} {meth : Method} {c : Code} {Q : State → Prop} {A : Nat → Prop} {cells slots : Nat} (hx : p.tables.exec = Jvm.exec) (hb : c.code = cX_dropOldest) (hml : c.maxLocals = 2) (hown : s.vm.findClass "EventPatterns" = some m.cls) (hbw : ∀ w ∈ bw, w.before args s = true) (hK : va_K (dC, dI) cls2 (xt cI cZ cG) s) :
    ∀ (k pl : Nat) (a : Nat → Nat → Int32) (H : Heap) (locs : List Loc) (ls : Array Slot), 16 ≤ pl + k → 1 ≤ pl → pl ≤ 16 → lv_has ls 2 [(1, .int (nI pl)), (0, .ref (q 0))] → va_P (dC, dI) cls2 (xw q cI cZ cG a f w) H → va_D A (xw q cI cZ cG a f w) → va_S A s.heap H locs →
      (∀ (H : Heap) (locs : List Loc) (ls : Array Slot), lv_has ls 2 [(0, .ref (q 0))] → va_P (dC, dI) cls2 (xw q cI cZ cG (xDropL (k + 1) pl a) (f) (w)) H → va_D A (xw q cI cZ cG (xDropL (k + 1) pl a) (f) (w)) → va_S A s.heap H locs → W p l e ({ frames := 0, cells := 0, slots := 0, locals := 0 }) s m args below meth c H locs cells slots Q (F0 m 56 ls [])) → W p l e ({ frames := 0, cells := 0, slots := 0, locals := 0 }) s m args below meth c H locs cells slots Q (F0 m 2 ls []) := by
  intro k
  induction k using Nat.strongRecOn with
  | ind k ih =>
    intro pl a H locs ls hk h1 h2 hl hP hD hS kk
    refine lv_iload_n hx hb dX_dropOldest_2 rfl (lv_at hl 0 rfl) ?_
    refine lv_bipush (v := 16) hx hb dX_dropOldest_3 (by decide) ?_
    refine nr_icmp_ge (tgt := 56) hx hb (a1 := pl) (b1 := 16) (by omega) (by omega) dX_dropOldest_5 (by decide) (fun c_5 => ?_) (fun c_5 => ?_)
    · rw [xDropL_out c_5] at kk
      exact kk H locs ls (lv_sub hl [1] rfl) hP hD hS
    · refine lv_aload_n hx hb dX_dropOldest_8 rfl (lv_at hl 1 rfl) ?_
      refine va_get (D := (dC, dI)) (ci := 0) (v := .ref (q 1)) (C := "EventPatterns") (T := TX) (N := 16) hx hb hbw inX hown hK hP 0 rfl rfl 0 (by decide) (hbw _ kf_X_9) (fun _ h9 => h9) rfl dX_dropOldest_9 ?_
      refine lv_iload_n hx hb dX_dropOldest_12 rfl (lv_at hl 0 rfl) ?_
      refine lv_iconst (v := 1) hx hb dX_dropOldest_13 (by decide) ?_
      refine nr_isub hx hb (a1 := pl) (b1 := 1) (by omega) dX_dropOldest_14 ?_
      refine lv_aload_n hx hb dX_dropOldest_15 rfl (lv_at hl 1 rfl) ?_
      refine va_get (D := (dC, dI)) (ci := 0) (v := .ref (q 1)) (C := "EventPatterns") (T := TX) (N := 16) hx hb hbw inX hown hK hP 0 rfl rfl 0 (by decide) (hbw _ kf_X_9) (fun _ h9 => h9) rfl dX_dropOldest_16 ?_
      refine lv_iload_n hx hb dX_dropOldest_19 rfl (lv_at hl 0 rfl) ?_
      refine nr_iald hx hb hK hP 1 0 rfl rfl (j := pl) (by omega) (by decide) dX_dropOldest_20 ?_
      refine nr_iast hx hb hK hP hD hS 1 0 rfl rfl (j := pl - 1) (by omega) (by decide) dX_dropOldest_21 (fun H locs hP hD hS => ?_)
      have hP : va_P (dC, dI) cls2 (xw q cI cZ cG (va_up (a) 0 (upd (a 0) (pl - 1) ((a 0) (pl)))) (f) (w)) H := hP
      have hD : va_D A (xw q cI cZ cG (va_up (a) 0 (upd (a 0) (pl - 1) ((a 0) (pl)))) (f) (w)) := hD
      refine lv_aload_n hx hb dX_dropOldest_22 rfl (lv_at hl 1 rfl) ?_
      refine va_get (D := (dC, dI)) (ci := 0) (v := .ref (q 2)) (C := "EventPatterns") (T := TX) (N := 16) hx hb hbw inX hown hK hP 0 rfl rfl 1 (by decide) (hbw _ kf_X_13) (fun _ h9 => h9) rfl dX_dropOldest_23 ?_
      refine lv_iload_n hx hb dX_dropOldest_26 rfl (lv_at hl 0 rfl) ?_
      refine lv_iconst (v := 1) hx hb dX_dropOldest_27 (by decide) ?_
      refine nr_isub hx hb (a1 := pl) (b1 := 1) (by omega) dX_dropOldest_28 ?_
      refine lv_aload_n hx hb dX_dropOldest_29 rfl (lv_at hl 1 rfl) ?_
      refine va_get (D := (dC, dI)) (ci := 0) (v := .ref (q 2)) (C := "EventPatterns") (T := TX) (N := 16) hx hb hbw inX hown hK hP 0 rfl rfl 1 (by decide) (hbw _ kf_X_13) (fun _ h9 => h9) rfl dX_dropOldest_30 ?_
      refine lv_iload_n hx hb dX_dropOldest_33 rfl (lv_at hl 0 rfl) ?_
      refine nr_iald hx hb hK hP 2 0 rfl rfl (j := pl) (by omega) (by decide) dX_dropOldest_34 ?_
      refine nr_iast hx hb hK hP hD hS 2 0 rfl rfl (j := pl - 1) (by omega) (by decide) dX_dropOldest_35 (fun H locs hP hD hS => ?_)
      have hP : va_P (dC, dI) cls2 (xw q cI cZ cG (va_up (va_up (a) 0 (upd (a 0) (pl - 1) ((a 0) (pl)))) 1 (upd (a 1) (pl - 1) ((a 1) (pl)))) (f) (w)) H := hP
      have hD : va_D A (xw q cI cZ cG (va_up (va_up (a) 0 (upd (a 0) (pl - 1) ((a 0) (pl)))) 1 (upd (a 1) (pl - 1) ((a 1) (pl)))) (f) (w)) := hD
      refine lv_aload_n hx hb dX_dropOldest_36 rfl (lv_at hl 1 rfl) ?_
      refine va_get (D := (dC, dI)) (ci := 0) (v := .ref (q 3)) (C := "EventPatterns") (T := TX) (N := 16) hx hb hbw inX hown hK hP 0 rfl rfl 2 (by decide) (hbw _ kf_X_16) (fun _ h9 => h9) rfl dX_dropOldest_37 ?_
      refine lv_iload_n hx hb dX_dropOldest_40 rfl (lv_at hl 0 rfl) ?_
      refine lv_iconst (v := 1) hx hb dX_dropOldest_41 (by decide) ?_
      refine nr_isub hx hb (a1 := pl) (b1 := 1) (by omega) dX_dropOldest_42 ?_
      refine lv_aload_n hx hb dX_dropOldest_43 rfl (lv_at hl 1 rfl) ?_
      refine va_get (D := (dC, dI)) (ci := 0) (v := .ref (q 3)) (C := "EventPatterns") (T := TX) (N := 16) hx hb hbw inX hown hK hP 0 rfl rfl 2 (by decide) (hbw _ kf_X_16) (fun _ h9 => h9) rfl dX_dropOldest_44 ?_
      refine lv_iload_n hx hb dX_dropOldest_47 rfl (lv_at hl 0 rfl) ?_
      refine nr_iald hx hb hK hP 3 0 rfl rfl (j := pl) (by omega) (by decide) dX_dropOldest_48 ?_
      refine nr_iast hx hb hK hP hD hS 3 0 rfl rfl (j := pl - 1) (by omega) (by decide) dX_dropOldest_49 (fun H locs hP hD hS => ?_)
      have hP : va_P (dC, dI) cls2 (xw q cI cZ cG (va_up (va_up (va_up (a) 0 (upd (a 0) (pl - 1) ((a 0) (pl)))) 1 (upd (a 1) (pl - 1) ((a 1) (pl)))) 2 (upd (a 2) (pl - 1) ((a 2) (pl)))) (f) (w)) H := hP
      have hD : va_D A (xw q cI cZ cG (va_up (va_up (va_up (a) 0 (upd (a 0) (pl - 1) ((a 0) (pl)))) 1 (upd (a 1) (pl - 1) ((a 1) (pl)))) 2 (upd (a 2) (pl - 1) ((a 2) (pl)))) (f) (w)) := hD
      refine lv_iinc (v := nI (pl + 1)) (lv' := [(1, .int (nI (pl + 1))), (0, .ref (q 0))]) hx hb dX_dropOldest_50 hl (k := 0) rfl (nI_1 _) (by decide) rfl (fun ls hl => ?_)
      refine lv_goto (tgt := 2) hx hb dX_dropOldest_53 (by decide) ?_
      exact ih (k - 1) (by omega) (pl + 1) (xDropS a pl) _ _ ls (by omega) (by omega) (by omega) (lv_sub hl [0, 1] rfl) hP hD hS (fun H locs ls hl hP hD hS => by rw [xDropL_in (by omega) c_5] at kk; exact kk H locs ls hl hP hD hS)
set_option maxHeartbeats 4000000 in
set_option maxRecDepth 100000 in
/-- dropOldest() -/
theorem tX_dropOldest (l : Launch) (dC : Nat → ClassId) (dI : Nat → Nat → Nat) (q : Nat → Nat) (cI cZ cG : ClassId) (a : Nat → Nat → Int32) (f : Nat → Int32) (w : Nat → Nat → Int32) (sz : Nat)   : Met l yX_dropOldest wX_dropOldest ({ frames := 0, cells := 0, slots := 0, locals := 0 }) (va_Pc [.ref (q 0)] (fun U => U.heap.size = sz ∧ va_P (dC, dI) cls2 (xw q cI cZ cG a f w) U.heap ∧ va_K (dC, dI) cls2 (xt cI cZ cG) U ∧ va_D (fun _ => True) (xw q cI cZ cG a f w))) (va_Qv (fun (u : XS) => ∃ a1 : Nat → Nat → Int32, a1 = xDropL 16 1 a ∧ u = (a1, va_up f 1 15, w)) (atX dC dI q cI cZ cG (va_A (xw q cI cZ cG a f w) sz)) (va_A (xw q cI cZ cG a f w) sz)) 0 0 (va_A (xw q cI cZ cG a f w) sz) := by
  refine Met.ofW (cc := cX_dropOldest) (maxL := 2) (ret := none) (by decide) rfl ?_
  intro p e s m args below meth c s₁ B hml hv
  obtain ⟨rfl, hsz, hP, hK, hD0⟩ := hv
  have hx := B.exec
  have hb := B.bytes
  have hr := B.returns
  have hbw : ∀ w ∈ bw, w.before _ s = true := fun w h => atoms_spec (ws := wX_dropOldest) B.pre w (List.mem_cons_of_mem _ h)
  have hown : s.vm.findClass "EventPatterns" = some m.cls := findClass_of_methodNamed B.named
  have hlocks := B.notSynchronized
  subst hsz
  have hD := hD0.self (sz := s.heap.size)
  generalize hAe : va_A (xw q cI cZ cG a f w) s.heap.size = A at hD ⊢
  have hA : ∀ q : Nat, s.heap.size ≤ q → A q := fun q h => by rw [← hAe]; exact Or.inr h
  have hS : va_S A s.heap s.heap [] := va_S.rf
  have hl := lv_entry ([.ref (q 0)]) (n := 2) (Nat.le_of_ble_eq_true rfl)
  rw [lg_entry_eq]
  generalize (lg_sl ([.ref (q 0)]) ++ List.replicate (2 - (lg_sl ([.ref (q 0)])).length) Slot.unset).toArray = ls at hl ⊢
  have hl : lv_has ls 2 [(0, .ref (q 0))] := hl
  refine lv_iconst (v := 1) hx hb dX_dropOldest_0 (by decide) ?_
  refine lv_istore_n (lv' := [(1, .int (1)), (0, .ref (q 0))]) hx hb dX_dropOldest_1 rfl hl (by decide) rfl (fun ls hl => ?_)
  refine lX_dropOldest l dC dI q cI cZ cG f w hx hb hml hown hbw hK 15 1 a s.heap [] ls (by omega) (by omega) (by omega) (lv_sub hl [0, 1] rfl) hP hD hS (fun H locs ls hl hP hD hS => ?_)
  refine lv_aload_n hx hb dX_dropOldest_56 rfl (lv_at hl 0 rfl) ?_
  refine lv_bipush (v := 15) hx hb dX_dropOldest_57 (by decide) ?_
  refine va_put (D := (dC, dI)) (ci := 0) (v := .int (15)) (ty := .int) (C := "EventPatterns") (T := TX) (N := 16) hx hb hbw inX tyX okX nmX hown hK hP hD hS 0 rfl rfl 4 (by decide) (hbw _ kf_X_47) (fun _ h9 => h9) rfl (by decide +kernel) rfl rfl (Nat.le_of_ble_eq_true rfl) dX_dropOldest_59 (fun H locs hP hD hS => ?_)
  have hP : va_P (dC, dI) cls2 (xw q cI cZ cG (xDropL 16 1 a) (va_up (f) 1 (15)) (w)) H := hP
  have hD : va_D A (xw q cI cZ cG (xDropL 16 1 a) (va_up (f) 1 (15)) (w)) := hD
  exact W.vret hx hb hr (fun t ht hW => ⟨⟨(xDropL 16 1 a, va_up f 1 15, w), rfl, ⟨_, rfl, rfl⟩, by rw [ht]; exact hP, va_K.moved hW.alike hK, hD⟩, hS.F ht⟩) hS.2.2 dX_dropOldest_62
