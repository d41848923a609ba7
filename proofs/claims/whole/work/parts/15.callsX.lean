/-! THE CLASS: event, and the calls that look for matches -/
theorem xAddA_lo {a : Nat → Nat → Int32} {L pl st i : Nat} (h : i ≤ 6) : xAddA a L pl st i = a i := by
  unfold xAddA
  rw [va_up_ne _ _ (by omega), va_up_ne _ _ (by omega)]
theorem xWalkL_frame (w : Nat → Nat → Int32) (n ms fi : Nat) (hn : n ≤ 16) : ∀ (k nx : Nat) (left : Int32) (pl st L : Nat) (a : Nat → Nat → Int32) (f : Nat → Int32), f 5 = nI L → L + fi ≤ nx → nx ≤ 16 →
    (∀ i, i ≤ 6 → (xWalkL w n ms fi k nx left pl st L a f).1 i = a i) ∧ (∀ i, i ≠ 5 → (xWalkL w n ms fi k nx left pl st L a f).2.1 i = f i) ∧ ∃ L', L' ≤ 16 ∧ (xWalkL w n ms fi k nx left pl st L a f).2.1 5 = nI L' := by
  intro k
  induction k with
  | zero => intro nx left pl st L a f h5 hL hx; exact ⟨fun _ _ => rfl, fun _ _ => rfl, L, by omega, h5⟩
  | succ k ih =>
    intro nx left pl st L a f h5 hL hx
    have base : (∀ i, i ≤ 6 → (a, f, w).1 i = a i) ∧ (∀ i, i ≠ 5 → (a, f, w).2.1 i = f i) ∧ ∃ L', L' ≤ 16 ∧ (a, f, w).2.1 5 = nI L' := ⟨fun _ _ => rfl, fun _ _ => rfl, L, by omega, h5⟩
    have go : ∀ lf : Int32, nx < n → (∀ i, i ≤ 6 → (xWalkG (xWalkL w n ms fi k) w ms fi nx lf pl st L a f).1 i = a i) ∧ (∀ i, i ≠ 5 → (xWalkG (xWalkL w n ms fi k) w ms fi nx lf pl st L a f).2.1 i = f i) ∧ ∃ L', L' ≤ 16 ∧ (xWalkG (xWalkL w n ms fi k) w ms fi nx lf pl st L a f).2.1 5 = nI L' := by
      intro lf hnx
      unfold xWalkG
      split
      · exact base
      · split
        · have st2 : ∀ (lf2 : Int32) (p2 s2 : Nat), (∀ i, i ≤ 6 → (xWalkL w n ms fi k (nx + 1) lf2 nx s2 (L + 1) (xAddA a L nx s2) (va_up f 5 (nI (L + 1)))).1 i = a i) ∧ (∀ i, i ≠ 5 → (xWalkL w n ms fi k (nx + 1) lf2 nx s2 (L + 1) (xAddA a L nx s2) (va_up f 5 (nI (L + 1)))).2.1 i = f i) ∧ ∃ L', L' ≤ 16 ∧ (xWalkL w n ms fi k (nx + 1) lf2 nx s2 (L + 1) (xAddA a L nx s2) (va_up f 5 (nI (L + 1)))).2.1 5 = nI L' := by
            intro lf2 p2 s2
            obtain ⟨i1, i2, i3⟩ := ih (nx + 1) lf2 nx s2 (L + 1) (xAddA a L nx s2) (va_up f 5 (nI (L + 1))) (va_up_self _ _ _) (by omega) (by omega)
            exact ⟨fun i hi => (i1 i hi).trans (xAddA_lo hi), fun i hi => (i2 i hi).trans (va_up_ne _ _ hi), i3⟩
          split
          · exact st2 _ 0 _
          · exact st2 _ 0 _
        · exact ih _ _ _ _ _ _ _ h5 (by omega) (by omega)
    unfold xWalkL
    split
    · rename_i hnx
      split
      · split
        · exact base
        · exact go _ hnx
      · exact go _ hnx
    · exact base
theorem xWalk_frame (a : Nat → Nat → Int32) (f : Nat → Int32) (w : Nat → Nat → Int32) (n ms fi : Nat) (left : Int32) (hn : n ≤ 16) (hfi : fi < n) :
    (∀ i, i ≤ 6 → (xWalk a f w n ms fi left).1 i = a i) ∧ (∀ i, i ≠ 5 → (xWalk a f w n ms fi left).2.1 i = f i) ∧ ∃ L', L' ≤ 16 ∧ (xWalk a f w n ms fi left).2.1 5 = nI L' := by
  obtain ⟨i1, i2, i3⟩ := xWalkL_frame w n ms fi hn (n + 1) (fi + 1) left fi 0 1 (xAddA a 0 fi 0) (va_up (va_up f 5 0) 5 (nI (0 + 1))) (va_up_self _ _ _) (by omega) (by omega)
  exact ⟨fun i hi => (i1 i hi).trans (xAddA_lo hi), fun i hi => (i2 i hi).trans ((va_up_ne _ _ hi).trans (va_up_ne _ _ hi)), i3⟩
theorem xFindL_frame (a : Nat → Nat → Int32) (f : Nat → Int32) (n ms : Nat) (hn : n ≤ 16) : ∀ (k fi : Nat) (left : Int32) (w : Nat → Nat → Int32),
    (∀ i, i ≤ 6 → (xFindL a f n ms k fi left w).2.1 i = a i) ∧ (∀ i, i ≠ 5 → (xFindL a f n ms k fi left w).2.2.1 i = f i) ∧ ((xFindL a f n ms k fi left w).1 = true → ∃ L', L' ≤ 16 ∧ (xFindL a f n ms k fi left w).2.2.1 5 = nI L') := by
  intro k
  induction k with
  | zero => intro fi left w; exact ⟨fun _ _ => rfl, fun _ _ => rfl, fun h => by cases h⟩
  | succ k ih =>
    intro fi left w
    unfold xFindL
    split
    · rename_i hfi
      split
      · obtain ⟨i1, i2, i3⟩ := xWalk_frame a f (xFromW a f n ms fi 0 w) n ms fi left hn hfi
        exact ⟨i1, i2, fun _ => i3⟩
      · exact ih _ _ _
    · exact ⟨fun _ _ => rfl, fun _ _ => rfl, fun h => by cases h⟩
theorem xFind_frame (a : Nat → Nat → Int32) (f : Nat → Int32) (w : Nat → Nat → Int32) (n ms : Nat) (kk : Int32) (hn : n ≤ 16) :
    (∀ i, i ≤ 6 → (xFind a f w n ms kk).2.1 i = a i) ∧ (∀ i, i ≠ 5 → (xFind a f w n ms kk).2.2.1 i = f i) ∧ ((xFind a f w n ms kk).1 = true → ∃ L', L' ≤ 16 ∧ (xFind a f w n ms kk).2.2.1 5 = nI L') := by
  unfold xFind
  split
  · exact ⟨fun _ _ => rfl, fun _ _ => rfl, fun h => by cases h⟩
  · exact xFindL_frame a f n ms hn _ _ _ _
def xEvA (a : Nat → Nat → Int32) (n : Nat) (tm kd va : Int32) : Nat → Nat → Int32 := va_up (va_up (va_up a 0 (upd (a 0) n tm)) 1 (upd (a 1) n kd)) 2 (upd (a 2) n va)
def xLate (a : Nat → Nat → Int32) (n : Nat) : Int32 := if n = 0 then 0 else a 0 (n - 1)
def evBad (a : Nat → Nat → Int32) (n : Nat) (tm kd : Int32) : Prop := tm < xLate a n ∨ 1000000 < tm ∨ kd < 0 ∨ 7 < kd
def xEv (a : Nat → Nat → Int32) (f : Nat → Int32) (w : Nat → Nat → Int32) (n cm : Nat) (tm kd va : Int32) : XS := if n < 16 then (xEvA a n tm kd va, va_up (va_up f 1 (nI (n + 1))) 0 (nI (cm + 1)), w) else (xEvA (xDropL 16 1 a) 15 tm kd va, va_up (va_up (va_up f 1 15) 1 (nI (15 + 1))) 0 (nI (cm + 1)), w)
set_option maxHeartbeats 4000000 in
set_option maxRecDepth 100000 in
/-- needMatch(k) -/
theorem tX_needMatch (l : Launch) (dC : Nat → ClassId) (dI : Nat → Nat → Nat) (q : Nat → Nat) (cI cZ cG : ClassId) (a : Nat → Nat → Int32) (f : Nat → Int32) (w : Nat → Nat → Int32) (sz : Nat) (n ms : Nat) (kk : Int32) (hn : n ≤ 16) (hf1 : f 1 = nI n) (h0 : 1 ≤ ms) (hm : ms ≤ 5) (hf4 : f 4 = nI ms)  : vx_Met l yX_needMatch wX_needMatch ({ frames := 6, cells := 1, slots := 6, locals := 123 }) (va_Pc [.ref (q 0), .int (kk)] (fun U => U.heap.size = sz ∧ va_P (dC, dI) cls2 (xw q cI cZ cG a f w) U.heap ∧ va_K (dC, dI) cls2 (xt cI cZ cG) U ∧ va_D (fun _ => True) (xw q cI cZ cG a f w) ∧ xE l (va_A (xw q cI cZ cG a f w) sz) U U.heap)) (va_Qv (fun (u : XS) => (xFind a f w n ms kk).1 = true ∧ u = (xFind a f w n ms kk).2) (atX dC dI q cI cZ cG (va_A (xw q cI cZ cG a f w) sz)) (va_A (xw q cI cZ cG a f w) sz)) (vx_X (fun u : XS => u = (xFind a f w n ms kk).2) (fun E u t => (E = "java/lang/IndexOutOfBoundsException" ∧ (xFind a f w n ms kk).1 = false) ∧ atX dC dI q cI cZ cG (va_A (xw q cI cZ cG a f w) sz) u t) (va_A (xw q cI cZ cG a f w) sz)) 1 6 (va_A (xw q cI cZ cG a f w) sz) := by
  refine vx_ofW (cc := cX_needMatch) (maxL := 2) (ret := none) (by decide) rfl ?_
  intro p e s m args below meth c s₁ B hml hno hv
  obtain ⟨rfl, hsz, hP, hK, hD0, hE⟩ := hv
  have hx := B.exec
  have hb := B.bytes
  have hr := B.returns
  have hbw : ∀ w ∈ bw, w.before _ s = true := fun w h => atoms_spec (ws := wX_needMatch) B.pre w (List.mem_cons_of_mem _ h)
  have hown : s.vm.findClass "EventPatterns" = some m.cls := findClass_of_methodNamed B.named
  have hlocks := B.notSynchronized
  subst hsz
  have hD := hD0.self (sz := s.heap.size)
  generalize hAe : va_A (xw q cI cZ cG a f w) s.heap.size = A at hD hE ⊢
  have hA : ∀ q : Nat, s.heap.size ≤ q → A q := fun q h => by rw [← hAe]; exact Or.inr h
  have hS : va_S A s.heap s.heap [] := va_S.rf
  have hl := lv_entry ([.ref (q 0), .int (kk)]) (n := 2) (Nat.le_of_ble_eq_true rfl)
  rw [lg_entry_eq]
  generalize (lg_sl ([.ref (q 0), .int (kk)]) ++ List.replicate (2 - (lg_sl ([.ref (q 0), .int (kk)])).length) Slot.unset).toArray = ls at hl ⊢
  have hl : lv_has ls 2 [(0, .ref (q 0)), (1, .int (kk))] := hl
  refine lv_aload_n hx hb dX_needMatch_0 rfl (lv_at hl 0 rfl) ?_
  refine lv_iload_n hx hb dX_needMatch_1 rfl (lv_at hl 1 rfl) ?_
  have hFc := va_free (wc := xw q cI cZ cG (a) (f) (w)) hD hS hA (List.range 27) rfl
  refine va_calli (va_runV (As := [.int (kk)]) (rest := []) ⟨hx, hb, hml, hown, hbw⟩ (tX_find l dC dI q cI cZ cG a f w s.heap.size n ms kk hn hf1 h0 hm hf4) (cwV 1 hbw (bw_V km_X_117 ki_yX_find ksel_yX_find ki_EventPatterns kcX_find) rfl rfl rfl (by decide +kernel) ⟨Nat.le_of_ble_eq_true rfl, Nat.le_of_ble_eq_true rfl⟩) ⟨fun a U g mk q => by obtain ⟨q0, q1, qP, qK, qD⟩ := q; exact ⟨q0, q1, qP, va_K.moved (u := U) (U := U.calling g mk a) (Vm.Alike.refl U.vm) qK, qD⟩, va_recv hK hP (ci := 0) (q0 := 0) rfl rfl, fun U hU hW => ⟨rfl, by rw [hU], by rw [hU]; exact hP, va_K.moved hW.alike hK, hD.weaken (fun _ _ _ _ => trivial)⟩⟩ rfl rfl hl.1 rfl (lv_room (Nat.le_of_ble_eq_true rfl)) dX_needMatch_2 ⟨Nat.le_of_ble_eq_true rfl, Nat.le_of_ble_eq_true rfl⟩) hS (fun q _ h => hFc q h) hFc (fun r_2 u t H1 locs ht hvm hq hB hz1 hk1 hS => ?_)
  obtain ⟨rfl, rfl⟩ := hq
  obtain ⟨hP1, hK1, hD1⟩ := hB
  rw [ht] at hP1
  have hP : va_P (dC, dI) cls2 (xw q cI cZ cG ((xFind a f w n ms kk).2.1) ((xFind a f w n ms kk).2.2.1) ((xFind a f w n ms kk).2.2.2)) H1 := hP1
  have hD : va_D A (xw q cI cZ cG ((xFind a f w n ms kk).2.1) ((xFind a f w n ms kk).2.2.1) ((xFind a f w n ms kk).2.2.2)) := hD1.weaken (fun _ _ _ h => hFc _ h)
  generalize H1 = H at hP hS ⊢
  refine nr_ifb_ne (tgt := 18) hx hb (b := ((xFind a f w n ms kk).1)) dX_needMatch_5 (by decide) (fun c_5 => ?_) (fun c_5 => ?_)
  · refine vx_ret ?_
    refine W.widen (k := 1) (n := 6) (by omega) (by omega) ?_
    exact W.vret hx hb hr (fun t ht hW => ⟨⟨(xFind a f w n ms kk).2, rfl, ⟨c_5, rfl⟩, by rw [ht]; exact hP, va_K.moved hW.alike hK, hD⟩, hS.F ht⟩) hS.2.2 dX_needMatch_18
  · obtain ⟨sa, hstr⟩ := hE.2.2.2.2 (121, "no such match") (by decide)
    exact vx_throwS (text := "no such match") (names := ["java/lang/RuntimeException", "java/lang/Exception"]) hx hb hE.1 hown (by decide) (by decide) (hbw _ kl_X_105) (hbw _ ki_java_lang_IndexOutOfBoundsException) hstr (xat_IOE hbw hE) xgd_IOE hE.2.1 hE.2.2.1 hS (hl.1.trans hml.symm) dX_needMatch_8 dX_needMatch_11 dX_needMatch_12 dX_needMatch_14 dX_needMatch_17 (fun x hx => (hno x hx).elim) (Nat.le_of_ble_eq_true rfl) (Nat.le_of_ble_eq_true rfl) (Nat.le_of_ble_eq_true rfl) (Nat.le_of_ble_eq_true rfl) hlocks (fun t hal hle hkeep => ⟨(xFind a f w n ms kk).2, rfl, ⟨⟨rfl, c_5⟩, hP.kept (fun k q hk => hkeep q.1 ((hP k q hk).lt)), va_K.moved hal hK, hD⟩, ⟨Nat.le_trans hS.1 hle, fun q h1 h2 => (hkeep q (Nat.lt_of_lt_of_le h1 hS.1)).trans (hS.2.1 q h1 h2)⟩⟩) hS.2.2 (Nat.le_of_ble_eq_true rfl) (Nat.le_of_ble_eq_true rfl)
set_option maxHeartbeats 4000000 in
set_option maxRecDepth 100000 in
/-- count() -/
theorem tX_count (l : Launch) (dC : Nat → ClassId) (dI : Nat → Nat → Nat) (q : Nat → Nat) (cI cZ cG : ClassId) (a : Nat → Nat → Int32) (f : Nat → Int32) (w : Nat → Nat → Int32) (sz : Nat) (n ms : Nat) (hn : n ≤ 16) (hf1 : f 1 = nI n) (hm : ms ≤ 5) (hf4 : f 4 = nI ms)  : vx_Met l yX_count wX_count ({ frames := 7, cells := 1, slots := 6, locals := 122 }) (va_Pc [.ref (q 0)] (fun U => U.heap.size = sz ∧ va_P (dC, dI) cls2 (xw q cI cZ cG a f w) U.heap ∧ va_K (dC, dI) cls2 (xt cI cZ cG) U ∧ va_D (fun _ => True) (xw q cI cZ cG a f w) ∧ xE l (va_A (xw q cI cZ cG a f w) sz) U U.heap)) (va_Qi (fun (r0 : Int32) (u : XS) => 1 ≤ ms ∧ r0 = (xCntL a f n ms (0) (n + 1) 0 0 w).1 ∧ u = (a, f, (xCntL a f n ms (0) (n + 1) 0 0 w).2)) (atX dC dI q cI cZ cG (va_A (xw q cI cZ cG a f w) sz)) (va_A (xw q cI cZ cG a f w) sz)) (vx_X (fun u : XS => u = (a, f, w)) (fun E u t => (E = "java/lang/IllegalStateException" ∧ ms = 0) ∧ atX dC dI q cI cZ cG (va_A (xw q cI cZ cG a f w) sz) u t) (va_A (xw q cI cZ cG a f w) sz)) 1 6 (va_A (xw q cI cZ cG a f w) sz) := by
  refine vx_ofW (cc := cX_count) (maxL := 1) (ret := (some .int)) (by decide) rfl ?_
  intro p e s m args below meth c s₁ B hml hno hv
  obtain ⟨rfl, hsz, hP, hK, hD0, hE⟩ := hv
  have hx := B.exec
  have hb := B.bytes
  have hr := B.returns
  have hbw : ∀ w ∈ bw, w.before _ s = true := fun w h => atoms_spec (ws := wX_count) B.pre w (List.mem_cons_of_mem _ h)
  have hown : s.vm.findClass "EventPatterns" = some m.cls := findClass_of_methodNamed B.named
  have hlocks := B.notSynchronized
  subst hsz
  have hD := hD0.self (sz := s.heap.size)
  generalize hAe : va_A (xw q cI cZ cG a f w) s.heap.size = A at hD hE ⊢
  have hA : ∀ q : Nat, s.heap.size ≤ q → A q := fun q h => by rw [← hAe]; exact Or.inr h
  have hS : va_S A s.heap s.heap [] := va_S.rf
  have hl := lv_entry ([.ref (q 0)]) (n := 1) (Nat.le_of_ble_eq_true rfl)
  rw [lg_entry_eq]
  generalize (lg_sl ([.ref (q 0)]) ++ List.replicate (1 - (lg_sl ([.ref (q 0)])).length) Slot.unset).toArray = ls at hl ⊢
  have hl : lv_has ls 1 [(0, .ref (q 0))] := hl
  refine lv_aload_n hx hb dX_count_0 rfl (lv_at hl 0 rfl) ?_
  have hFc := va_free (wc := xw q cI cZ cG (a) (f) (w)) hD hS hA (List.range 27) rfl
  refine vx_callv (vx_runV (As := []) (rest := []) ⟨hx, hb, hml, hown, hbw⟩ (tX_needSteps l dC dI q cI cZ cG a f w s.heap.size ms hm hf4) (cwV 0 hbw (bw_V km_X_94 ki_yX_needSteps ksel_yX_needSteps ki_EventPatterns kcX_needSteps) rfl rfl rfl (by decide +kernel) ⟨Nat.le_of_ble_eq_true rfl, Nat.le_of_ble_eq_true rfl⟩) ⟨fun a U g mk q => by obtain ⟨q0, q1, qP, qK, qD, qE⟩ := q; exact ⟨q0, q1, qP, va_K.moved (u := U) (U := U.calling g mk a) (Vm.Alike.refl U.vm) qK, qD, xE.same (s := U) rfl qE⟩, va_recv hK hP (ci := 0) (q0 := 0) rfl rfl, fun U hU hW => ⟨rfl, by rw [hU], by rw [hU]; exact hP, va_K.moved hW.alike hK, hD.weaken (fun _ _ _ _ => trivial), by rw [hU]; exact ((hE.kept hS.2.1).narrow hFc).warm hW⟩⟩ rfl rfl hl.1 rfl (lv_room (Nat.le_of_ble_eq_true rfl)) dX_count_1 ⟨Nat.le_of_ble_eq_true rfl, Nat.le_of_ble_eq_true rfl⟩) hS (fun q _ h => hFc q h) hFc (fun q _ h => hFc q h) (fun E ce q9 u t H1 locs ht hal hpx hBX hz1 hk1 hS hce hcv hcl => ?_) (fun u t H1 locs ht hvm hq hB hz1 hk1 hS => ?_)
  · obtain ⟨herr, hP1, hK1, hD1⟩ := hBX
    subst hpx
    rw [ht] at hP1
    exact vx_out (fun x hx => (hno x hx).elim) hlocks hce hcv hcl (fun t2 ht2 hal2 => ⟨(a, f, w), rfl, ⟨⟨herr.1, herr.2⟩, by rw [ht2]; exact hP1, va_K.moved hal2 hK, hD1.weaken (fun _ _ _ h => hFc _ h)⟩, hS.F ht2⟩) hS.2.2 (Nat.le_of_ble_eq_true rfl) (Nat.le_of_ble_eq_true rfl)
  obtain ⟨h0, hq⟩ := hq
  obtain rfl := hq
  obtain ⟨hP1, hK1, hD1⟩ := hB
  rw [ht] at hP1
  have hP : va_P (dC, dI) cls2 (xw q cI cZ cG (a) (f) (w)) H1 := hP1
  have hD : va_D A (xw q cI cZ cG (a) (f) (w)) := hD1.weaken (fun _ _ _ h => hFc _ h)
  generalize H1 = H at hP hS ⊢
  refine lv_aload_n hx hb dX_count_4 rfl (lv_at hl 0 rfl) ?_
  refine lv_iconst (v := 0) hx hb dX_count_5 (by decide) ?_
  have hFc := va_free (wc := xw q cI cZ cG (a) (f) (w)) hD hS hA (List.range 27) rfl
  refine va_calli (va_runV (As := [.int (0)]) (rest := []) ⟨hx, hb, hml, hown, hbw⟩ (tX_countEnding l dC dI q cI cZ cG a f w H.size n ms (0) hn hf1 h0 hm hf4) (cwV 1 hbw (bw_V km_X_97 ki_yX_countEnding ksel_yX_countEnding ki_EventPatterns kcX_countEnding) rfl rfl rfl (by decide +kernel) ⟨Nat.le_of_ble_eq_true rfl, Nat.le_of_ble_eq_true rfl⟩) ⟨fun a U g mk q => by obtain ⟨q0, q1, qP, qK, qD⟩ := q; exact ⟨q0, q1, qP, va_K.moved (u := U) (U := U.calling g mk a) (Vm.Alike.refl U.vm) qK, qD⟩, va_recv hK hP (ci := 0) (q0 := 0) rfl rfl, fun U hU hW => ⟨rfl, by rw [hU], by rw [hU]; exact hP, va_K.moved hW.alike hK, hD.weaken (fun _ _ _ _ => trivial)⟩⟩ rfl rfl hl.1 rfl (lv_room (Nat.le_of_ble_eq_true rfl)) dX_count_6 ⟨Nat.le_of_ble_eq_true rfl, Nat.le_of_ble_eq_true rfl⟩) hS (fun q _ h => hFc q h) hFc (fun r_6 u t H1 locs ht hvm hq hB hz1 hk1 hS => ?_)
  obtain ⟨rfl, rfl⟩ := hq
  obtain ⟨hP1, hK1, hD1⟩ := hB
  rw [ht] at hP1
  have hP : va_P (dC, dI) cls2 (xw q cI cZ cG (a) (f) ((xCntL a f n ms (0) (n + 1) 0 0 w).2)) H1 := hP1
  have hD : va_D A (xw q cI cZ cG (a) (f) ((xCntL a f n ms (0) (n + 1) 0 0 w).2)) := hD1.weaken (fun _ _ _ h => hFc _ h)
  generalize H1 = H at hP hS ⊢
  refine vx_ret ?_
  refine W.widen (k := 1) (n := 6) (by omega) (by omega) ?_
  exact W.iret (v := (xCntL a f n ms (0) (n + 1) 0 0 w).1) hx hb hr (fun t ht hW => ⟨⟨(xCntL a f n ms (0) (n + 1) 0 0 w).1, (a, f, (xCntL a f n ms (0) (n + 1) 0 0 w).2), rfl, ⟨h0, rfl, rfl⟩, by rw [ht]; exact hP, va_K.moved hW.alike hK, hD⟩, hS.F ht⟩) hS.2.2 dX_count_9
set_option maxHeartbeats 4000000 in
set_option maxRecDepth 100000 in
/-- latest() -/
theorem tX_latest (l : Launch) (dC : Nat → ClassId) (dI : Nat → Nat → Nat) (q : Nat → Nat) (cI cZ cG : ClassId) (a : Nat → Nat → Int32) (f : Nat → Int32) (w : Nat → Nat → Int32) (sz : Nat) (n ms : Nat) (hn : n ≤ 16) (hf1 : f 1 = nI n) (hm : ms ≤ 5) (hf4 : f 4 = nI ms)  : vx_Met l yX_latest wX_latest ({ frames := 7, cells := 1, slots := 6, locals := 122 }) (va_Pc [.ref (q 0)] (fun U => U.heap.size = sz ∧ va_P (dC, dI) cls2 (xw q cI cZ cG a f w) U.heap ∧ va_K (dC, dI) cls2 (xt cI cZ cG) U ∧ va_D (fun _ => True) (xw q cI cZ cG a f w) ∧ xE l (va_A (xw q cI cZ cG a f w) sz) U U.heap)) (va_Qi (fun (r0 : Int32) (u : XS) => 1 ≤ ms ∧ r0 = (xCntL a f n ms (nI n - 1) (n + 1) 0 0 w).1 ∧ u = (a, f, (xCntL a f n ms (nI n - 1) (n + 1) 0 0 w).2)) (atX dC dI q cI cZ cG (va_A (xw q cI cZ cG a f w) sz)) (va_A (xw q cI cZ cG a f w) sz)) (vx_X (fun u : XS => u = (a, f, w)) (fun E u t => (E = "java/lang/IllegalStateException" ∧ ms = 0) ∧ atX dC dI q cI cZ cG (va_A (xw q cI cZ cG a f w) sz) u t) (va_A (xw q cI cZ cG a f w) sz)) 1 6 (va_A (xw q cI cZ cG a f w) sz) := by
  refine vx_ofW (cc := cX_latest) (maxL := 1) (ret := (some .int)) (by decide) rfl ?_
  intro p e s m args below meth c s₁ B hml hno hv
  obtain ⟨rfl, hsz, hP, hK, hD0, hE⟩ := hv
  have hx := B.exec
  have hb := B.bytes
  have hr := B.returns
  have hbw : ∀ w ∈ bw, w.before _ s = true := fun w h => atoms_spec (ws := wX_latest) B.pre w (List.mem_cons_of_mem _ h)
  have hown : s.vm.findClass "EventPatterns" = some m.cls := findClass_of_methodNamed B.named
  have hlocks := B.notSynchronized
  subst hsz
  have hD := hD0.self (sz := s.heap.size)
  generalize hAe : va_A (xw q cI cZ cG a f w) s.heap.size = A at hD hE ⊢
  have hA : ∀ q : Nat, s.heap.size ≤ q → A q := fun q h => by rw [← hAe]; exact Or.inr h
  have hS : va_S A s.heap s.heap [] := va_S.rf
  have hl := lv_entry ([.ref (q 0)]) (n := 1) (Nat.le_of_ble_eq_true rfl)
  rw [lg_entry_eq]
  generalize (lg_sl ([.ref (q 0)]) ++ List.replicate (1 - (lg_sl ([.ref (q 0)])).length) Slot.unset).toArray = ls at hl ⊢
  have hl : lv_has ls 1 [(0, .ref (q 0))] := hl
  refine lv_aload_n hx hb dX_latest_0 rfl (lv_at hl 0 rfl) ?_
  have hFc := va_free (wc := xw q cI cZ cG (a) (f) (w)) hD hS hA (List.range 27) rfl
  refine vx_callv (vx_runV (As := []) (rest := []) ⟨hx, hb, hml, hown, hbw⟩ (tX_needSteps l dC dI q cI cZ cG a f w s.heap.size ms hm hf4) (cwV 0 hbw (bw_V km_X_94 ki_yX_needSteps ksel_yX_needSteps ki_EventPatterns kcX_needSteps) rfl rfl rfl (by decide +kernel) ⟨Nat.le_of_ble_eq_true rfl, Nat.le_of_ble_eq_true rfl⟩) ⟨fun a U g mk q => by obtain ⟨q0, q1, qP, qK, qD, qE⟩ := q; exact ⟨q0, q1, qP, va_K.moved (u := U) (U := U.calling g mk a) (Vm.Alike.refl U.vm) qK, qD, xE.same (s := U) rfl qE⟩, va_recv hK hP (ci := 0) (q0 := 0) rfl rfl, fun U hU hW => ⟨rfl, by rw [hU], by rw [hU]; exact hP, va_K.moved hW.alike hK, hD.weaken (fun _ _ _ _ => trivial), by rw [hU]; exact ((hE.kept hS.2.1).narrow hFc).warm hW⟩⟩ rfl rfl hl.1 rfl (lv_room (Nat.le_of_ble_eq_true rfl)) dX_latest_1 ⟨Nat.le_of_ble_eq_true rfl, Nat.le_of_ble_eq_true rfl⟩) hS (fun q _ h => hFc q h) hFc (fun q _ h => hFc q h) (fun E ce q9 u t H1 locs ht hal hpx hBX hz1 hk1 hS hce hcv hcl => ?_) (fun u t H1 locs ht hvm hq hB hz1 hk1 hS => ?_)
  · obtain ⟨herr, hP1, hK1, hD1⟩ := hBX
    subst hpx
    rw [ht] at hP1
    exact vx_out (fun x hx => (hno x hx).elim) hlocks hce hcv hcl (fun t2 ht2 hal2 => ⟨(a, f, w), rfl, ⟨⟨herr.1, herr.2⟩, by rw [ht2]; exact hP1, va_K.moved hal2 hK, hD1.weaken (fun _ _ _ h => hFc _ h)⟩, hS.F ht2⟩) hS.2.2 (Nat.le_of_ble_eq_true rfl) (Nat.le_of_ble_eq_true rfl)
  obtain ⟨h0, hq⟩ := hq
  obtain rfl := hq
  obtain ⟨hP1, hK1, hD1⟩ := hB
  rw [ht] at hP1
  have hP : va_P (dC, dI) cls2 (xw q cI cZ cG (a) (f) (w)) H1 := hP1
  have hD : va_D A (xw q cI cZ cG (a) (f) (w)) := hD1.weaken (fun _ _ _ h => hFc _ h)
  generalize H1 = H at hP hS ⊢
  refine lv_aload_n hx hb dX_latest_4 rfl (lv_at hl 0 rfl) ?_
  refine lv_aload_n hx hb dX_latest_5 rfl (lv_at hl 0 rfl) ?_
  refine va_get (D := (dC, dI)) (ci := 0) (v := .int (nI (n))) (C := "EventPatterns") (T := TX) (N := 16) hx hb hbw inX hown hK hP 0 rfl rfl 4 (by decide) (hbw _ kf_X_47) (fun _ h9 => h9) (congrArg (fun z => some (Value.int z)) (hf1)) dX_latest_6 ?_
  refine lv_iconst (v := 1) hx hb dX_latest_9 (by decide) ?_
  refine lv_isub hx hb dX_latest_10 ?_
  have hFc := va_free (wc := xw q cI cZ cG (a) (f) (w)) hD hS hA (List.range 27) rfl
  refine va_calli (va_runV (As := [.int (nI n - 1)]) (rest := []) ⟨hx, hb, hml, hown, hbw⟩ (tX_countEnding l dC dI q cI cZ cG a f w H.size n ms (nI n - 1) hn hf1 h0 hm hf4) (cwV 1 hbw (bw_V km_X_97 ki_yX_countEnding ksel_yX_countEnding ki_EventPatterns kcX_countEnding) rfl rfl rfl (by decide +kernel) ⟨Nat.le_of_ble_eq_true rfl, Nat.le_of_ble_eq_true rfl⟩) ⟨fun a U g mk q => by obtain ⟨q0, q1, qP, qK, qD⟩ := q; exact ⟨q0, q1, qP, va_K.moved (u := U) (U := U.calling g mk a) (Vm.Alike.refl U.vm) qK, qD⟩, va_recv hK hP (ci := 0) (q0 := 0) rfl rfl, fun U hU hW => ⟨rfl, by rw [hU], by rw [hU]; exact hP, va_K.moved hW.alike hK, hD.weaken (fun _ _ _ _ => trivial)⟩⟩ rfl rfl hl.1 rfl (lv_room (Nat.le_of_ble_eq_true rfl)) dX_latest_11 ⟨Nat.le_of_ble_eq_true rfl, Nat.le_of_ble_eq_true rfl⟩) hS (fun q _ h => hFc q h) hFc (fun r_11 u t H1 locs ht hvm hq hB hz1 hk1 hS => ?_)
  obtain ⟨rfl, rfl⟩ := hq
  obtain ⟨hP1, hK1, hD1⟩ := hB
  rw [ht] at hP1
  have hP : va_P (dC, dI) cls2 (xw q cI cZ cG (a) (f) ((xCntL a f n ms (nI n - 1) (n + 1) 0 0 w).2)) H1 := hP1
  have hD : va_D A (xw q cI cZ cG (a) (f) ((xCntL a f n ms (nI n - 1) (n + 1) 0 0 w).2)) := hD1.weaken (fun _ _ _ h => hFc _ h)
  generalize H1 = H at hP hS ⊢
  refine vx_ret ?_
  refine W.widen (k := 1) (n := 6) (by omega) (by omega) ?_
  exact W.iret (v := (xCntL a f n ms (nI n - 1) (n + 1) 0 0 w).1) hx hb hr (fun t ht hW => ⟨⟨(xCntL a f n ms (nI n - 1) (n + 1) 0 0 w).1, (a, f, (xCntL a f n ms (nI n - 1) (n + 1) 0 0 w).2), rfl, ⟨h0, rfl, rfl⟩, by rw [ht]; exact hP, va_K.moved hW.alike hK, hD⟩, hS.F ht⟩) hS.2.2 dX_latest_14
set_option maxHeartbeats 4000000 in
set_option maxRecDepth 100000 in
/-- length(k) -/
theorem tX_length (l : Launch) (dC : Nat → ClassId) (dI : Nat → Nat → Nat) (q : Nat → Nat) (cI cZ cG : ClassId) (a : Nat → Nat → Int32) (f : Nat → Int32) (w : Nat → Nat → Int32) (sz : Nat) (n ms : Nat) (kk : Int32) (hn : n ≤ 16) (hf1 : f 1 = nI n) (hm : ms ≤ 5) (hf4 : f 4 = nI ms)  : vx_Met l yX_length wX_length ({ frames := 7, cells := 2, slots := 12, locals := 144 }) (va_Pc [.ref (q 0), .int (kk)] (fun U => U.heap.size = sz ∧ va_P (dC, dI) cls2 (xw q cI cZ cG a f w) U.heap ∧ va_K (dC, dI) cls2 (xt cI cZ cG) U ∧ va_D (fun _ => True) (xw q cI cZ cG a f w) ∧ xE l (va_A (xw q cI cZ cG a f w) sz) U U.heap)) (va_Qi (fun (r0 : Int32) (u : XS) => (1 ≤ ms ∧ (xFind a f w n ms kk).1 = true) ∧ r0 = (xFind a f w n ms kk).2.2.1 5 ∧ u = (xFind a f w n ms kk).2) (atX dC dI q cI cZ cG (va_A (xw q cI cZ cG a f w) sz)) (va_A (xw q cI cZ cG a f w) sz)) (vx_X (fun u : XS => u = (if ms = 0 then (a, f, w) else (xFind a f w n ms kk).2)) (fun E u t => (E = "java/lang/IllegalStateException" ∧ ms = 0 ∨ E = "java/lang/IndexOutOfBoundsException" ∧ 1 ≤ ms ∧ (xFind a f w n ms kk).1 = false) ∧ atX dC dI q cI cZ cG (va_A (xw q cI cZ cG a f w) sz) u t) (va_A (xw q cI cZ cG a f w) sz)) 2 12 (va_A (xw q cI cZ cG a f w) sz) := by
  refine vx_ofW (cc := cX_length) (maxL := 2) (ret := (some .int)) (by decide) rfl ?_
  intro p e s m args below meth c s₁ B hml hno hv
  obtain ⟨rfl, hsz, hP, hK, hD0, hE⟩ := hv
  have hx := B.exec
  have hb := B.bytes
  have hr := B.returns
  have hbw : ∀ w ∈ bw, w.before _ s = true := fun w h => atoms_spec (ws := wX_length) B.pre w (List.mem_cons_of_mem _ h)
  have hown : s.vm.findClass "EventPatterns" = some m.cls := findClass_of_methodNamed B.named
  have hlocks := B.notSynchronized
  subst hsz
  have hD := hD0.self (sz := s.heap.size)
  generalize hAe : va_A (xw q cI cZ cG a f w) s.heap.size = A at hD hE ⊢
  have hA : ∀ q : Nat, s.heap.size ≤ q → A q := fun q h => by rw [← hAe]; exact Or.inr h
  have hS : va_S A s.heap s.heap [] := va_S.rf
  have hl := lv_entry ([.ref (q 0), .int (kk)]) (n := 2) (Nat.le_of_ble_eq_true rfl)
  rw [lg_entry_eq]
  generalize (lg_sl ([.ref (q 0), .int (kk)]) ++ List.replicate (2 - (lg_sl ([.ref (q 0), .int (kk)])).length) Slot.unset).toArray = ls at hl ⊢
  have hl : lv_has ls 2 [(0, .ref (q 0)), (1, .int (kk))] := hl
  refine lv_aload_n hx hb dX_length_0 rfl (lv_at hl 0 rfl) ?_
  have hFc := va_free (wc := xw q cI cZ cG (a) (f) (w)) hD hS hA (List.range 27) rfl
  refine vx_callv (vx_runV (As := []) (rest := []) ⟨hx, hb, hml, hown, hbw⟩ (tX_needSteps l dC dI q cI cZ cG a f w s.heap.size ms hm hf4) (cwV 0 hbw (bw_V km_X_94 ki_yX_needSteps ksel_yX_needSteps ki_EventPatterns kcX_needSteps) rfl rfl rfl (by decide +kernel) ⟨Nat.le_of_ble_eq_true rfl, Nat.le_of_ble_eq_true rfl⟩) ⟨fun a U g mk q => by obtain ⟨q0, q1, qP, qK, qD, qE⟩ := q; exact ⟨q0, q1, qP, va_K.moved (u := U) (U := U.calling g mk a) (Vm.Alike.refl U.vm) qK, qD, xE.same (s := U) rfl qE⟩, va_recv hK hP (ci := 0) (q0 := 0) rfl rfl, fun U hU hW => ⟨rfl, by rw [hU], by rw [hU]; exact hP, va_K.moved hW.alike hK, hD.weaken (fun _ _ _ _ => trivial), by rw [hU]; exact ((hE.kept hS.2.1).narrow hFc).warm hW⟩⟩ rfl rfl hl.1 rfl (lv_room (Nat.le_of_ble_eq_true rfl)) dX_length_1 ⟨Nat.le_of_ble_eq_true rfl, Nat.le_of_ble_eq_true rfl⟩) hS (fun q _ h => hFc q h) hFc (fun q _ h => hFc q h) (fun E ce q9 u t H1 locs ht hal hpx hBX hz1 hk1 hS hce hcv hcl => ?_) (fun u t H1 locs ht hvm hq hB hz1 hk1 hS => ?_)
  · obtain ⟨herr, hP1, hK1, hD1⟩ := hBX
    subst hpx
    rw [ht] at hP1
    exact vx_out (fun x hx => (hno x hx).elim) hlocks hce hcv hcl (fun t2 ht2 hal2 => ⟨(a, f, w), (by rw [if_pos herr.2]), ⟨Or.inl herr, by rw [ht2]; exact hP1, va_K.moved hal2 hK, hD1.weaken (fun _ _ _ h => hFc _ h)⟩, hS.F ht2⟩) hS.2.2 (Nat.le_of_ble_eq_true rfl) (Nat.le_of_ble_eq_true rfl)
  obtain ⟨h0, hq⟩ := hq
  obtain rfl := hq
  obtain ⟨hP1, hK1, hD1⟩ := hB
  rw [ht] at hP1
  have hP : va_P (dC, dI) cls2 (xw q cI cZ cG (a) (f) (w)) H1 := hP1
  have hD : va_D A (xw q cI cZ cG (a) (f) (w)) := hD1.weaken (fun _ _ _ h => hFc _ h)
  generalize H1 = H at hP hS ⊢
  refine lv_aload_n hx hb dX_length_4 rfl (lv_at hl 0 rfl) ?_
  refine lv_iload_n hx hb dX_length_5 rfl (lv_at hl 1 rfl) ?_
  have hFc := va_free (wc := xw q cI cZ cG (a) (f) (w)) hD hS hA (List.range 27) rfl
  refine vx_callv (vx_runV (As := [.int (kk)]) (rest := []) ⟨hx, hb, hml, hown, hbw⟩ (tX_needMatch l dC dI q cI cZ cG a f w H.size n ms kk hn hf1 h0 hm hf4) (cwV 1 hbw (bw_V km_X_101 ki_yX_needMatch ksel_yX_needMatch ki_EventPatterns kcX_needMatch) rfl rfl rfl (by decide +kernel) ⟨Nat.le_of_ble_eq_true rfl, Nat.le_of_ble_eq_true rfl⟩) ⟨fun a U g mk q => by obtain ⟨q0, q1, qP, qK, qD, qE⟩ := q; exact ⟨q0, q1, qP, va_K.moved (u := U) (U := U.calling g mk a) (Vm.Alike.refl U.vm) qK, qD, xE.same (s := U) rfl qE⟩, va_recv hK hP (ci := 0) (q0 := 0) rfl rfl, fun U hU hW => ⟨rfl, by rw [hU], by rw [hU]; exact hP, va_K.moved hW.alike hK, hD.weaken (fun _ _ _ _ => trivial), by rw [hU]; exact ((hE.kept hS.2.1).narrow hFc).warm hW⟩⟩ rfl rfl hl.1 rfl (lv_room (Nat.le_of_ble_eq_true rfl)) dX_length_6 ⟨Nat.le_of_ble_eq_true rfl, Nat.le_of_ble_eq_true rfl⟩) hS (fun q _ h => hFc q h) hFc (fun q _ h => hFc q h) (fun E ce q9 u t H1 locs ht hal hpx hBX hz1 hk1 hS hce hcv hcl => ?_) (fun u t H1 locs ht hvm hq hB hz1 hk1 hS => ?_)
  · obtain ⟨herr, hP1, hK1, hD1⟩ := hBX
    subst hpx
    rw [ht] at hP1
    exact vx_out (fun x hx => (hno x hx).elim) hlocks hce hcv hcl (fun t2 ht2 hal2 => ⟨(xFind a f w n ms kk).2, (by rw [if_neg (by omega)]), ⟨Or.inr ⟨herr.1, h0, herr.2⟩, by rw [ht2]; exact hP1, va_K.moved hal2 hK, hD1.weaken (fun _ _ _ h => hFc _ h)⟩, hS.F ht2⟩) hS.2.2 (Nat.le_of_ble_eq_true rfl) (Nat.le_of_ble_eq_true rfl)
  obtain ⟨hfound, hq⟩ := hq
  obtain rfl := hq
  obtain ⟨hP1, hK1, hD1⟩ := hB
  rw [ht] at hP1
  have hP : va_P (dC, dI) cls2 (xw q cI cZ cG ((xFind a f w n ms kk).2.1) ((xFind a f w n ms kk).2.2.1) ((xFind a f w n ms kk).2.2.2)) H1 := hP1
  have hD : va_D A (xw q cI cZ cG ((xFind a f w n ms kk).2.1) ((xFind a f w n ms kk).2.2.1) ((xFind a f w n ms kk).2.2.2)) := hD1.weaken (fun _ _ _ h => hFc _ h)
  generalize H1 = H at hP hS ⊢
  obtain ⟨fr1, fr2, fr3⟩ := xFind_frame a f w n ms kk hn
  obtain ⟨L, hL, hf5⟩ := fr3 hfound
  refine lv_aload_n hx hb dX_length_9 rfl (lv_at hl 0 rfl) ?_
  refine va_get (D := (dC, dI)) (ci := 0) (v := .int (nI (L))) (C := "EventPatterns") (T := TX) (N := 16) hx hb hbw inX hown hK hP 0 rfl rfl 15 (by decide) (hbw _ kf_X_59) (fun _ h9 => h9) (congrArg (fun z => some (Value.int z)) (hf5)) dX_length_10 ?_
  refine vx_ret ?_
  refine W.widen (k := 2) (n := 12) (by omega) (by omega) ?_
  exact W.iret (v := nI (L)) hx hb hr (fun t ht hW => ⟨⟨nI (L), (xFind a f w n ms kk).2, rfl, ⟨⟨h0, hfound⟩, hf5.symm, rfl⟩, by rw [ht]; exact hP, va_K.moved hW.alike hK, hD⟩, hS.F ht⟩) hS.2.2 dX_length_13
set_option maxHeartbeats 4000000 in
set_option maxRecDepth 100000 in
/-- match(k, i, what) -/
theorem tX_match (l : Launch) (dC : Nat → ClassId) (dI : Nat → Nat → Nat) (q : Nat → Nat) (cI cZ cG : ClassId) (a : Nat → Nat → Int32) (f : Nat → Int32) (w : Nat → Nat → Int32) (sz : Nat) (n cm ms : Nat) (kk ix wh : Int32) (hn : n ≤ 16) (hf1 : f 1 = nI n) (hcm : n ≤ cm) (hc4 : cm ≤ 400) (hf0 : f 0 = nI cm) (hm : ms ≤ 5) (hf4 : f 4 = nI ms)  : vx_Met l yX_match wX_match ({ frames := 7, cells := 3, slots := 18, locals := 144 }) (va_Pc [.ref (q 0), .int (kk), .int (ix), .int (wh)] (fun U => U.heap.size = sz ∧ va_P (dC, dI) cls2 (xw q cI cZ cG a f w) U.heap ∧ va_K (dC, dI) cls2 (xt cI cZ cG) U ∧ va_D (fun _ => True) (xw q cI cZ cG a f w) ∧ xE l (va_A (xw q cI cZ cG a f w) sz) U U.heap)) (va_Qi (fun (r0 : Int32) (u : XS) => (1 ≤ ms ∧ (xFind a f w n ms kk).1 = true ∧ ¬ (ix < 0 ∨ (xFind a f w n ms kk).2.2.1 5 ≤ ix)) ∧ ((wh = 0 ∨ ¬ wh = 0 ∧ wh = 1) ∧ r0 = if wh = 0 then nI (cm - n) + (xFind a f w n ms kk).2.1 7 ix.toNatClampNeg else (xFind a f w n ms kk).2.1 8 ix.toNatClampNeg) ∧ u = (xFind a f w n ms kk).2) (atX dC dI q cI cZ cG (va_A (xw q cI cZ cG a f w) sz)) (va_A (xw q cI cZ cG a f w) sz)) (vx_X (fun u : XS => u = (if ms = 0 then (a, f, w) else (xFind a f w n ms kk).2)) (fun E u t => (E = "java/lang/IllegalStateException" ∧ ms = 0 ∨ E = "java/lang/IndexOutOfBoundsException" ∧ 1 ≤ ms ∧ ((xFind a f w n ms kk).1 = false ∨ (xFind a f w n ms kk).1 = true ∧ (ix < 0 ∨ (xFind a f w n ms kk).2.2.1 5 ≤ ix)) ∨ E = "java/lang/IllegalArgumentException" ∧ 1 ≤ ms ∧ (xFind a f w n ms kk).1 = true ∧ ¬ (ix < 0 ∨ (xFind a f w n ms kk).2.2.1 5 ≤ ix) ∧ ¬ wh = 0 ∧ ¬ wh = 1) ∧ atX dC dI q cI cZ cG (va_A (xw q cI cZ cG a f w) sz) u t) (va_A (xw q cI cZ cG a f w) sz)) 3 18 (va_A (xw q cI cZ cG a f w) sz) := by
  refine vx_ofW (cc := cX_match) (maxL := 4) (ret := (some .int)) (by decide) rfl ?_
  intro p e s m args below meth c s₁ B hml hno hv
  obtain ⟨rfl, hsz, hP, hK, hD0, hE⟩ := hv
  have hx := B.exec
  have hb := B.bytes
  have hr := B.returns
  have hbw : ∀ w ∈ bw, w.before _ s = true := fun w h => atoms_spec (ws := wX_match) B.pre w (List.mem_cons_of_mem _ h)
  have hown : s.vm.findClass "EventPatterns" = some m.cls := findClass_of_methodNamed B.named
  have hlocks := B.notSynchronized
  subst hsz
  have hD := hD0.self (sz := s.heap.size)
  generalize hAe : va_A (xw q cI cZ cG a f w) s.heap.size = A at hD hE ⊢
  have hA : ∀ q : Nat, s.heap.size ≤ q → A q := fun q h => by rw [← hAe]; exact Or.inr h
  have hS : va_S A s.heap s.heap [] := va_S.rf
  have hl := lv_entry ([.ref (q 0), .int (kk), .int (ix), .int (wh)]) (n := 4) (Nat.le_of_ble_eq_true rfl)
  rw [lg_entry_eq]
  generalize (lg_sl ([.ref (q 0), .int (kk), .int (ix), .int (wh)]) ++ List.replicate (4 - (lg_sl ([.ref (q 0), .int (kk), .int (ix), .int (wh)])).length) Slot.unset).toArray = ls at hl ⊢
  have hl : lv_has ls 4 [(0, .ref (q 0)), (1, .int (kk)), (2, .int (ix)), (3, .int (wh))] := hl
  refine lv_aload_n hx hb dX_match_0 rfl (lv_at hl 0 rfl) ?_
  have hFc := va_free (wc := xw q cI cZ cG (a) (f) (w)) hD hS hA (List.range 27) rfl
  refine vx_callv (vx_runV (As := []) (rest := []) ⟨hx, hb, hml, hown, hbw⟩ (tX_needSteps l dC dI q cI cZ cG a f w s.heap.size ms hm hf4) (cwV 0 hbw (bw_V km_X_94 ki_yX_needSteps ksel_yX_needSteps ki_EventPatterns kcX_needSteps) rfl rfl rfl (by decide +kernel) ⟨Nat.le_of_ble_eq_true rfl, Nat.le_of_ble_eq_true rfl⟩) ⟨fun a U g mk q => by obtain ⟨q0, q1, qP, qK, qD, qE⟩ := q; exact ⟨q0, q1, qP, va_K.moved (u := U) (U := U.calling g mk a) (Vm.Alike.refl U.vm) qK, qD, xE.same (s := U) rfl qE⟩, va_recv hK hP (ci := 0) (q0 := 0) rfl rfl, fun U hU hW => ⟨rfl, by rw [hU], by rw [hU]; exact hP, va_K.moved hW.alike hK, hD.weaken (fun _ _ _ _ => trivial), by rw [hU]; exact ((hE.kept hS.2.1).narrow hFc).warm hW⟩⟩ rfl rfl hl.1 rfl (lv_room (Nat.le_of_ble_eq_true rfl)) dX_match_1 ⟨Nat.le_of_ble_eq_true rfl, Nat.le_of_ble_eq_true rfl⟩) hS (fun q _ h => hFc q h) hFc (fun q _ h => hFc q h) (fun E ce q9 u t H1 locs ht hal hpx hBX hz1 hk1 hS hce hcv hcl => ?_) (fun u t H1 locs ht hvm hq hB hz1 hk1 hS => ?_)
  · obtain ⟨herr, hP1, hK1, hD1⟩ := hBX
    subst hpx
    rw [ht] at hP1
    exact vx_out (fun x hx => (hno x hx).elim) hlocks hce hcv hcl (fun t2 ht2 hal2 => ⟨(a, f, w), (by rw [if_pos herr.2]), ⟨Or.inl herr, by rw [ht2]; exact hP1, va_K.moved hal2 hK, hD1.weaken (fun _ _ _ h => hFc _ h)⟩, hS.F ht2⟩) hS.2.2 (Nat.le_of_ble_eq_true rfl) (Nat.le_of_ble_eq_true rfl)
  obtain ⟨h0, hq⟩ := hq
  obtain rfl := hq
  obtain ⟨hP1, hK1, hD1⟩ := hB
  rw [ht] at hP1
  have hP : va_P (dC, dI) cls2 (xw q cI cZ cG (a) (f) (w)) H1 := hP1
  have hD : va_D A (xw q cI cZ cG (a) (f) (w)) := hD1.weaken (fun _ _ _ h => hFc _ h)
  generalize H1 = H at hP hS ⊢
  refine lv_aload_n hx hb dX_match_4 rfl (lv_at hl 0 rfl) ?_
  refine lv_iload_n hx hb dX_match_5 rfl (lv_at hl 1 rfl) ?_
  have hFc := va_free (wc := xw q cI cZ cG (a) (f) (w)) hD hS hA (List.range 27) rfl
  refine vx_callv (vx_runV (As := [.int (kk)]) (rest := []) ⟨hx, hb, hml, hown, hbw⟩ (tX_needMatch l dC dI q cI cZ cG a f w H.size n ms kk hn hf1 h0 hm hf4) (cwV 1 hbw (bw_V km_X_101 ki_yX_needMatch ksel_yX_needMatch ki_EventPatterns kcX_needMatch) rfl rfl rfl (by decide +kernel) ⟨Nat.le_of_ble_eq_true rfl, Nat.le_of_ble_eq_true rfl⟩) ⟨fun a U g mk q => by obtain ⟨q0, q1, qP, qK, qD, qE⟩ := q; exact ⟨q0, q1, qP, va_K.moved (u := U) (U := U.calling g mk a) (Vm.Alike.refl U.vm) qK, qD, xE.same (s := U) rfl qE⟩, va_recv hK hP (ci := 0) (q0 := 0) rfl rfl, fun U hU hW => ⟨rfl, by rw [hU], by rw [hU]; exact hP, va_K.moved hW.alike hK, hD.weaken (fun _ _ _ _ => trivial), by rw [hU]; exact ((hE.kept hS.2.1).narrow hFc).warm hW⟩⟩ rfl rfl hl.1 rfl (lv_room (Nat.le_of_ble_eq_true rfl)) dX_match_6 ⟨Nat.le_of_ble_eq_true rfl, Nat.le_of_ble_eq_true rfl⟩) hS (fun q _ h => hFc q h) hFc (fun q _ h => hFc q h) (fun E ce q9 u t H1 locs ht hal hpx hBX hz1 hk1 hS hce hcv hcl => ?_) (fun u t H1 locs ht hvm hq hB hz1 hk1 hS => ?_)
  · obtain ⟨herr, hP1, hK1, hD1⟩ := hBX
    subst hpx
    rw [ht] at hP1
    exact vx_out (fun x hx => (hno x hx).elim) hlocks hce hcv hcl (fun t2 ht2 hal2 => ⟨(xFind a f w n ms kk).2, (by rw [if_neg (by omega)]), ⟨Or.inr (Or.inl ⟨herr.1, h0, Or.inl herr.2⟩), by rw [ht2]; exact hP1, va_K.moved hal2 hK, hD1.weaken (fun _ _ _ h => hFc _ h)⟩, hS.F ht2⟩) hS.2.2 (Nat.le_of_ble_eq_true rfl) (Nat.le_of_ble_eq_true rfl)
  obtain ⟨hfound, hq⟩ := hq
  obtain rfl := hq
  obtain ⟨hP1, hK1, hD1⟩ := hB
  rw [ht] at hP1
  have hP : va_P (dC, dI) cls2 (xw q cI cZ cG ((xFind a f w n ms kk).2.1) ((xFind a f w n ms kk).2.2.1) ((xFind a f w n ms kk).2.2.2)) H1 := hP1
  have hD : va_D A (xw q cI cZ cG ((xFind a f w n ms kk).2.1) ((xFind a f w n ms kk).2.2.1) ((xFind a f w n ms kk).2.2.2)) := hD1.weaken (fun _ _ _ h => hFc _ h)
  generalize H1 = H at hP hS ⊢
  obtain ⟨fr1, fr2, fr3⟩ := xFind_frame a f w n ms kk hn
  obtain ⟨L, hL, hf5⟩ := fr3 hfound
  have hF0 : (xFind a f w n ms kk).2.2.1 0 = nI cm := (fr2 0 (by decide)).trans hf0
  have hF1 : (xFind a f w n ms kk).2.2.1 1 = nI n := (fr2 1 (by decide)).trans hf1
  refine lv_iload_n hx hb dX_match_9 rfl (lv_at hl 2 rfl) ?_
  refine lv_if_lt (tgt := 21) hx hb dX_match_10 (by decide) (fun c_10 => ?_) (fun c_10 => ?_)
  · obtain ⟨sa, hstr⟩ := hE.2.2.2.2 (107, "no such event in the match") (by decide)
    exact vx_throwS (text := "no such event in the match") (names := ["java/lang/RuntimeException", "java/lang/Exception"]) hx hb hE.1 hown (by decide) (by decide) (hbw _ kl_X_105) (hbw _ ki_java_lang_IndexOutOfBoundsException) hstr (xat_IOE hbw hE) xgd_IOE hE.2.1 hE.2.2.1 hS (hl.1.trans hml.symm) dX_match_21 dX_match_24 dX_match_25 dX_match_27 dX_match_30 (fun x hx => (hno x hx).elim) (Nat.le_of_ble_eq_true rfl) (Nat.le_of_ble_eq_true rfl) (Nat.le_of_ble_eq_true rfl) (Nat.le_of_ble_eq_true rfl) hlocks (fun t hal hle hkeep => ⟨(xFind a f w n ms kk).2, (by rw [if_neg (by omega)]), ⟨Or.inr (Or.inl ⟨rfl, h0, Or.inr ⟨hfound, by rw [hf5]; first | exact Or.inl c_10 | exact Or.inr (Int32.not_lt.mp c_18)⟩⟩), hP.kept (fun k q hk => hkeep q.1 ((hP k q hk).lt)), va_K.moved hal hK, hD⟩, ⟨Nat.le_trans hS.1 hle, fun q h1 h2 => (hkeep q (Nat.lt_of_lt_of_le h1 hS.1)).trans (hS.2.1 q h1 h2)⟩⟩) hS.2.2 (Nat.le_of_ble_eq_true rfl) (Nat.le_of_ble_eq_true rfl)
  · refine lv_iload_n hx hb dX_match_13 rfl (lv_at hl 2 rfl) ?_
    refine lv_aload_n hx hb dX_match_14 rfl (lv_at hl 0 rfl) ?_
    refine va_get (D := (dC, dI)) (ci := 0) (v := .int (nI (L))) (C := "EventPatterns") (T := TX) (N := 16) hx hb hbw inX hown hK hP 0 rfl rfl 15 (by decide) (hbw _ kf_X_59) (fun _ h9 => h9) (congrArg (fun z => some (Value.int z)) (hf5)) dX_match_15 ?_
    refine lv_icmp_lt (tgt := 31) hx hb dX_match_18 (by decide) (fun c_18 => ?_) (fun c_18 => ?_)
    · obtain ⟨j, hj, rfl⟩ : ∃ j : Nat, j < L ∧ ix = nI j := by
        rcases pk_ix ix (n := L) (by omega) with h9 | h9 | h9
        · exact absurd h9 c_10
        · exact absurd c_18 (Int32.not_lt.mpr h9)
        · exact h9
      have hnoix : ¬ (nI j < 0 ∨ nI L ≤ nI j) := fun h9 => h9.elim c_10 (fun h8 => absurd c_18 (Int32.not_lt.mpr h8))
      refine lv_iload_n hx hb dX_match_31 rfl (lv_at hl 3 rfl) ?_
      refine lv_if_ne (tgt := 52) hx hb dX_match_32 (by decide) (fun c_32 => ?_) (fun c_32 => ?_)
      · refine lv_iload_n hx hb dX_match_52 rfl (lv_at hl 3 rfl) ?_
        refine lv_iconst (v := 1) hx hb dX_match_53 (by decide) ?_
        refine lv_icmp_ne (tgt := 64) hx hb dX_match_54 (by decide) (fun c_54 => ?_) (fun c_54 => ?_)
        · obtain ⟨sa, hstr⟩ := hE.2.2.2.2 (110, "no such what") (by decide)
          exact vx_throwS (text := "no such what") (names := ["java/lang/RuntimeException", "java/lang/Exception"]) hx hb hE.1 hown (by decide) (by decide) (hbw _ kl_X_67) (hbw _ ki_java_lang_IllegalArgumentException) hstr (xat_IAE hbw hE) xgd_IAE hE.2.1 hE.2.2.1 hS (hl.1.trans hml.symm) dX_match_64 dX_match_67 dX_match_68 dX_match_70 dX_match_73 (fun x hx => (hno x hx).elim) (Nat.le_of_ble_eq_true rfl) (Nat.le_of_ble_eq_true rfl) (Nat.le_of_ble_eq_true rfl) (Nat.le_of_ble_eq_true rfl) hlocks (fun t hal hle hkeep => ⟨(xFind a f w n ms kk).2, (by rw [if_neg (by omega)]), ⟨Or.inr (Or.inr ⟨rfl, h0, hfound, by rw [hf5]; exact hnoix, c_32, c_54⟩), hP.kept (fun k q hk => hkeep q.1 ((hP k q hk).lt)), va_K.moved hal hK, hD⟩, ⟨Nat.le_trans hS.1 hle, fun q h1 h2 => (hkeep q (Nat.lt_of_lt_of_le h1 hS.1)).trans (hS.2.1 q h1 h2)⟩⟩) hS.2.2 (Nat.le_of_ble_eq_true rfl) (Nat.le_of_ble_eq_true rfl)
        · refine lv_aload_n hx hb dX_match_57 rfl (lv_at hl 0 rfl) ?_
          refine va_get (D := (dC, dI)) (ci := 0) (v := .ref (q 10)) (C := "EventPatterns") (T := TX) (N := 16) hx hb hbw inX hown hK hP 0 rfl rfl 14 (by decide) (hbw _ kf_X_40) (fun _ h9 => h9) rfl dX_match_58 ?_
          refine lv_iload_n hx hb dX_match_61 rfl (lv_at hl 2 rfl) ?_
          refine nr_iald hx hb hK hP 10 0 rfl rfl (j := j) (by omega) (by decide) dX_match_62 ?_
          refine vx_ret ?_
          refine W.widen (k := 3) (n := 18) (by omega) (by omega) ?_
          exact W.iret (v := ((xFind a f w n ms kk).2.1 8) (j)) hx hb hr (fun t ht hW => ⟨⟨((xFind a f w n ms kk).2.1 8) (j), (xFind a f w n ms kk).2, rfl, ⟨⟨h0, hfound, by rw [hf5]; exact hnoix⟩, ⟨Or.inr ⟨c_32, c_54⟩, by rw [nI_clamp (by omega)]; first | rw [if_pos c_32] | rw [if_neg c_32]⟩, rfl⟩, by rw [ht]; exact hP, va_K.moved hW.alike hK, hD⟩, hS.F ht⟩) hS.2.2 dX_match_63
      · refine lv_aload_n hx hb dX_match_35 rfl (lv_at hl 0 rfl) ?_
        refine va_get (D := (dC, dI)) (ci := 0) (v := .int (nI (cm))) (C := "EventPatterns") (T := TX) (N := 16) hx hb hbw inX hown hK hP 0 rfl rfl 3 (by decide) (hbw _ kf_X_43) (fun _ h9 => h9) (congrArg (fun z => some (Value.int z)) (hF0)) dX_match_36 ?_
        refine lv_aload_n hx hb dX_match_39 rfl (lv_at hl 0 rfl) ?_
        refine va_get (D := (dC, dI)) (ci := 0) (v := .int (nI (n))) (C := "EventPatterns") (T := TX) (N := 16) hx hb hbw inX hown hK hP 0 rfl rfl 4 (by decide) (hbw _ kf_X_47) (fun _ h9 => h9) (congrArg (fun z => some (Value.int z)) (hF1)) dX_match_40 ?_
        refine nr_isub hx hb (a1 := cm) (b1 := n) (by omega) dX_match_43 ?_
        refine lv_aload_n hx hb dX_match_44 rfl (lv_at hl 0 rfl) ?_
        refine va_get (D := (dC, dI)) (ci := 0) (v := .ref (q 9)) (C := "EventPatterns") (T := TX) (N := 16) hx hb hbw inX hown hK hP 0 rfl rfl 13 (by decide) (hbw _ kf_X_37) (fun _ h9 => h9) rfl dX_match_45 ?_
        refine lv_iload_n hx hb dX_match_48 rfl (lv_at hl 2 rfl) ?_
        refine nr_iald hx hb hK hP 9 0 rfl rfl (j := j) (by omega) (by decide) dX_match_49 ?_
        refine lv_iadd hx hb dX_match_50 ?_
        refine vx_ret ?_
        refine W.widen (k := 3) (n := 18) (by omega) (by omega) ?_
        exact W.iret (v := (nI (cm - n)) + (((xFind a f w n ms kk).2.1 7) (j))) hx hb hr (fun t ht hW => ⟨⟨(nI (cm - n)) + (((xFind a f w n ms kk).2.1 7) (j)), (xFind a f w n ms kk).2, rfl, ⟨⟨h0, hfound, by rw [hf5]; exact hnoix⟩, ⟨Or.inl c_32, by rw [nI_clamp (by omega)]; first | rw [if_pos c_32] | rw [if_neg c_32]⟩, rfl⟩, by rw [ht]; exact hP, va_K.moved hW.alike hK, hD⟩, hS.F ht⟩) hS.2.2 dX_match_51
    · obtain ⟨sa, hstr⟩ := hE.2.2.2.2 (107, "no such event in the match") (by decide)
      exact vx_throwS (text := "no such event in the match") (names := ["java/lang/RuntimeException", "java/lang/Exception"]) hx hb hE.1 hown (by decide) (by decide) (hbw _ kl_X_105) (hbw _ ki_java_lang_IndexOutOfBoundsException) hstr (xat_IOE hbw hE) xgd_IOE hE.2.1 hE.2.2.1 hS (hl.1.trans hml.symm) dX_match_21 dX_match_24 dX_match_25 dX_match_27 dX_match_30 (fun x hx => (hno x hx).elim) (Nat.le_of_ble_eq_true rfl) (Nat.le_of_ble_eq_true rfl) (Nat.le_of_ble_eq_true rfl) (Nat.le_of_ble_eq_true rfl) hlocks (fun t hal hle hkeep => ⟨(xFind a f w n ms kk).2, (by rw [if_neg (by omega)]), ⟨Or.inr (Or.inl ⟨rfl, h0, Or.inr ⟨hfound, by rw [hf5]; first | exact Or.inl c_10 | exact Or.inr (Int32.not_lt.mp c_18)⟩⟩), hP.kept (fun k q hk => hkeep q.1 ((hP k q hk).lt)), va_K.moved hal hK, hD⟩, ⟨Nat.le_trans hS.1 hle, fun q h1 h2 => (hkeep q (Nat.lt_of_lt_of_le h1 hS.1)).trans (hS.2.1 q h1 h2)⟩⟩) hS.2.2 (Nat.le_of_ble_eq_true rfl) (Nat.le_of_ble_eq_true rfl)
