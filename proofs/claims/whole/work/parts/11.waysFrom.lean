/-! THE CLASS: waysFrom -/
abbrev XS : Type := (Nat → Nat → Int32) × (Nat → Int32) × (Nat → Nat → Int32)
abbrev atX (dC : Nat → ClassId) (dI : Nat → Nat → Nat) (q : Nat → Nat) (cI cZ cG : ClassId) (A : Nat → Prop) (u : XS) (t : State) : Prop := va_P (dC, dI) cls2 (xw q cI cZ cG u.1 u.2.1 u.2.2) t.heap ∧ va_K (dC, dI) cls2 (xt cI cZ cG) t ∧ va_D A (xw q cI cZ cG u.1 u.2.1 u.2.2)
abbrev MS : Type := (Nat → Nat → Int32) × (Nat → Int32)
abbrev atM (dC : Nat → ClassId) (dI : Nat → Nat → Nat) (r : Nat → Nat) (cI cZ cG : ClassId) (A : Nat → Prop) (u : MS) (t : State) : Prop := va_P (dC, dI) cls2 (mw r cI cZ u.1 u.2) t.heap ∧ va_K (dC, dI) cls2 (xt cI cZ cG) t ∧ va_D A (mw r cI cZ u.1 u.2)
def xFromI (a : Nat → Nat → Int32) (f : Nat → Int32) (n ms fi pl : Nat) (lo : Int32) : Nat → Nat → (Nat → Nat → Int32) → (Nat → Nat → Int32)
  | 0, _, w => w
  | k + 1, st, w => if st < ms then xFromI a f n ms fi pl lo k (st + 1) (va_up w pl (upd (w pl) st (xOn a f w n ms fi pl st lo))) else w
theorem xFromI_out {a : Nat → Nat → Int32} {f : Nat → Int32} {n ms fi pl k st : Nat} {lo : Int32} {w : Nat → Nat → Int32} (h : ms ≤ st) : xFromI a f n ms fi pl lo (k + 1) st w = w := by
  rw [xFromI, if_neg (by omega)]
theorem xFromI_in {a : Nat → Nat → Int32} {f : Nat → Int32} {n ms fi pl k st : Nat} {lo : Int32} {w : Nat → Nat → Int32} (hk : 1 ≤ k) (h : st < ms) : xFromI a f n ms fi pl lo (k + 1) st w = xFromI a f n ms fi pl lo (k - 1 + 1) (st + 1) (va_up w pl (upd (w pl) st (xOn a f w n ms fi pl st lo))) := by
  rw [xFromI, if_pos h, show k - 1 + 1 = k by omega]
def xFromO (a : Nat → Nat → Int32) (f : Nat → Int32) (n ms fi : Nat) (lo : Int32) : Nat → (Nat → Nat → Int32) → (Nat → Nat → Int32)
  | 0, w => w
  | k + 1, w => if fi ≤ k then xFromO a f n ms fi lo k (xFromI a f n ms fi k lo (ms + 1) 0 w) else w
theorem xFromO_out {a : Nat → Nat → Int32} {f : Nat → Int32} {n ms fi k : Nat} {lo : Int32} {w : Nat → Nat → Int32} (h : k ≤ fi) : xFromO a f n ms fi lo k w = w := by
  cases k with
  | zero => rfl
  | succ k => rw [xFromO, if_neg (by omega)]
theorem xFromO_in {a : Nat → Nat → Int32} {f : Nat → Int32} {n ms fi k : Nat} {lo : Int32} {w : Nat → Nat → Int32} (h : fi < k) : xFromO a f n ms fi lo k w = xFromO a f n ms fi lo (k - 1) (xFromI a f n ms fi (k - 1) lo (ms + 1) 0 w) := by
  obtain ⟨j, rfl⟩ : ∃ j, k = j + 1 := ⟨k - 1, by omega⟩
  rw [xFromO, if_pos (by omega)]; rfl
theorem nr_below {k fi : Nat} (hk : k ≤ 16) (hf : fi ≤ 16) : nI k + Int32.ofInt (-1) < nI fi ↔ k ≤ fi := by
  have e : nI k + Int32.ofInt (-1) = nI k - nI 1 := by
    rw [show (Int32.ofInt (-1)) = -(nI 1) from by decide, ← Int32.sub_eq_add_neg]
  rw [e, Int32.lt_iff_toInt_lt, pk_sub_toInt (by omega) (by omega), nI_toInt (by omega)]
  omega
def xFromW (a : Nat → Nat → Int32) (f : Nat → Int32) (n ms fi : Nat) (lo : Int32) (w : Nat → Nat → Int32) : Nat → Nat → Int32 := if xFit a fi 0 fi fi then xFromO a f n ms fi lo n w else w
def xFromR (a : Nat → Nat → Int32) (f : Nat → Int32) (n ms fi : Nat) (lo : Int32) (w : Nat → Nat → Int32) : Int32 := if xFit a fi 0 fi fi then xFromO a f n ms fi lo n w fi 0 else 0
set_option maxHeartbeats 4000000 in
set_option maxRecDepth 100000 in
theorem lX_waysFromI (l : Launch) (dC : Nat → ClassId) (dI : Nat → Nat → Nat) (q : Nat → Nat) (cI cZ cG : ClassId) (a : Nat → Nat → Int32) (f : Nat → Int32) {p : Program} {e : Env} {s : State} {m : MethodId} {args : Array Value} {below : List Frame} {meth : Method} {c : Code} {Q : State → Prop} {A : Nat → Prop} (n ms fi : Nat) (lo : Int32) (hn : n ≤ 16) (hf1 : f 1 = nI n) (h0 : 1 ≤ ms) (hm : ms ≤ 5) (hf4 : f 4 = nI ms) (h1 : fi < n) {cells slots : Nat} (hcs : cells ≤ 0 ∧ slots ≤ 0) (hx : p.tables.exec = Jvm.exec) (hb : c.code = cX_waysFrom) (hml : c.maxLocals = 5) (hown : s.vm.findClass "EventPatterns" = some m.cls) (hbw : ∀ w ∈ bw, w.before args s = true) (hK : va_K (dC, dI) cls2 (xt cI cZ cG) s) (pl : Nat) (hpl : pl < n) :
    ∀ (k st : Nat) (w : Nat → Nat → Int32) (H : Heap) (locs : List Loc) (ls : Array Slot), ms ≤ st + k → st ≤ ms → lv_has ls 5 [(4, .int (nI st)), (3, .int (nI pl)), (0, .ref (q 0)), (1, .int (nI fi)), (2, .int lo)] → va_P (dC, dI) cls2 (xw q cI cZ cG (a) (f) (w)) H → va_D A (xw q cI cZ cG (a) (f) (w)) → va_S A s.heap H locs →
      (∀ (H : Heap) (locs : List Loc) (ls : Array Slot), lv_has ls 5 [(3, .int (nI pl)), (0, .ref (q 0)), (1, .int (nI fi)), (2, .int lo)] → va_P (dC, dI) cls2 (xw q cI cZ cG (a) (f) (xFromI a f n ms fi pl lo (k + 1) st w)) H → va_D A (xw q cI cZ cG (a) (f) (xFromI a f n ms fi pl lo (k + 1) st w)) → va_S A s.heap H locs → W p l e ({ frames := 3, cells := 0, slots := 0, locals := 75 }) s m args below meth c H locs cells slots Q (F0 m 61 ls [])) → W p l e ({ frames := 3, cells := 0, slots := 0, locals := 75 }) s m args below meth c H locs cells slots Q (F0 m 28 ls []) := by
  intro k
  induction k using Nat.strongRecOn with
  | ind k ih =>
    intro st w H locs ls hk hst hl hP hD hS kk
    refine lv_iload hx hb dX_waysFrom_28 (lv_at hl 0 rfl) ?_
    refine lv_aload_n hx hb dX_waysFrom_30 rfl (lv_at hl 2 rfl) ?_
    refine va_get (D := (dC, dI)) (ci := 0) (v := .int (nI (ms))) (C := "EventPatterns") (T := TX) (N := 16) hx hb hbw inX hown hK hP 0 rfl rfl 11 (by decide) (hbw _ kf_X_56) (fun _ h9 => h9) (congrArg (fun z => some (Value.int z)) (hf4)) dX_waysFrom_31 ?_
    refine nr_icmp_ge (tgt := 61) hx hb (a1 := st) (b1 := ms) (by omega) (by omega) dX_waysFrom_34 (by decide) (fun c_34 => ?_) (fun c_34 => ?_)
    · exact kk H locs ls (lv_sub hl [1, 2, 3, 4] rfl) (by rw [xFromI_out c_34]; exact hP) (by rw [xFromI_out c_34]; exact hD) hS
    · refine lv_aload_n hx hb dX_waysFrom_37 rfl (lv_at hl 2 rfl) ?_
      refine va_get (D := (dC, dI)) (ci := 0) (v := .ref (q 8)) (C := "EventPatterns") (T := TX) (N := 16) hx hb hbw inX hown hK hP 0 rfl rfl 12 (by decide) (hbw _ kf_X_34) (fun _ h9 => h9) rfl dX_waysFrom_38 ?_
      refine lv_iload_n hx hb dX_waysFrom_41 rfl (lv_at hl 1 rfl) ?_
      refine nr_aald hx hb hK hP 8 2 rfl rfl (j := pl) (by omega) (by decide) dX_waysFrom_42 ?_
      refine W.eq (g2 := F0 m 43 ls [.ref (q (11 + (pl)))]) rfl ?_
      refine lv_iload hx hb dX_waysFrom_43 (lv_at hl 0 rfl) ?_
      refine lv_aload_n hx hb dX_waysFrom_45 rfl (lv_at hl 2 rfl) ?_
      refine lv_iload_n hx hb dX_waysFrom_46 rfl (lv_at hl 3 rfl) ?_
      refine lv_iload_n hx hb dX_waysFrom_47 rfl (lv_at hl 1 rfl) ?_
      refine lv_iload hx hb dX_waysFrom_48 (lv_at hl 0 rfl) ?_
      refine lv_iload_n hx hb dX_waysFrom_50 rfl (lv_at hl 4 rfl) ?_
      refine vp_callSi (W.runV (As := [.int (nI (fi)), .int (nI (pl)), .int (nI (st)), .int (lo)]) (rest := [.int (nI (st)), .ref (q (11 + (pl)))]) ⟨hx, hb, hml, hown, hbw⟩ (tX_waysOn l dC dI q cI cZ cG a f (w) n ms (fi) (pl) (st) (lo) hn hf1 h0 hm hf4 (by omega) (by omega) (by omega)) (cwV 4 hbw (bw_V km_X_131 ki_yX_waysOn ksel_yX_waysOn ki_EventPatterns kcX_waysOn) rfl rfl rfl (by decide +kernel) ⟨Nat.le_of_ble_eq_true rfl, Nat.le_of_ble_eq_true rfl⟩) ⟨fun a U g mk q => by obtain ⟨q0, qP, qK⟩ := q; exact ⟨q0, qP, va_K.moved (u := U) (U := U.calling g mk a) (Vm.Alike.refl U.vm) qK⟩, va_recv hK hP (ci := 0) (q0 := 0) rfl rfl, fun U hU hW => ⟨rfl, by rw [hU]; exact hP, va_K.moved hW.alike hK⟩⟩ rfl rfl hl.1 rfl (lv_room (Nat.le_of_ble_eq_true rfl)) dX_waysFrom_51 ⟨hcs.1, hcs.2⟩) (fun r_51 hq => ?_)
      subst hq
      refine nr_iast hx hb hK hP hD hS (11 + (pl)) 0 (xw_row q cI cZ cG _ _ _ (by omega)) rfl (j := st) (by omega) (by decide) dX_waysFrom_54 (fun H locs hP hD hS => ?_)
      rw [xw_put q cI cZ cG _ _ _ (by omega)] at hP hD
      refine lv_iinc (v := nI (st + 1)) (lv' := [(4, .int (nI (st + 1))), (3, .int (nI (pl))), (0, .ref (q 0)), (1, .int (nI (fi))), (2, .int (lo))]) hx hb dX_waysFrom_55 hl (k := 0) rfl (nI_1 _) (by decide) rfl (fun ls hl => ?_)
      refine lv_goto (tgt := 28) hx hb dX_waysFrom_58 (by decide) ?_
      exact ih (k - 1) (by omega) (st + 1) _ _ _ ls (by omega) (by omega) (lv_sub hl [0, 1, 2, 3, 4] rfl) hP hD hS (fun H locs ls hl hP hD hS => kk H locs ls hl (by rw [xFromI_in (by omega) c_34]; exact hP) (by rw [xFromI_in (by omega) c_34]; exact hD) hS)
set_option maxHeartbeats 4000000 in
set_option maxRecDepth 100000 in
theorem lX_waysFromO (l : Launch) (dC : Nat → ClassId) (dI : Nat → Nat → Nat) (q : Nat → Nat) (cI cZ cG : ClassId) (a : Nat → Nat → Int32) (f : Nat → Int32) {p : Program} {e : Env} {s : State} {m : MethodId} {args : Array Value} {below : List Frame} {meth : Method} {c : Code} {Q : State → Prop} {A : Nat → Prop} (n ms fi : Nat) (lo : Int32) (hn : n ≤ 16) (hf1 : f 1 = nI n) (h0 : 1 ≤ ms) (hm : ms ≤ 5) (hf4 : f 4 = nI ms) (h1 : fi < n) {cells slots : Nat} (hcs : cells ≤ 0 ∧ slots ≤ 0) (hx : p.tables.exec = Jvm.exec) (hb : c.code = cX_waysFrom) (hml : c.maxLocals = 5) (hown : s.vm.findClass "EventPatterns" = some m.cls) (hbw : ∀ w ∈ bw, w.before args s = true) (hK : va_K (dC, dI) cls2 (xt cI cZ cG) s) :
    ∀ (k : Nat) (w : Nat → Nat → Int32) (H : Heap) (locs : List Loc) (ls : Array Slot), k ≤ n → lv_has ls 5 [(3, .int (nI k + Int32.ofInt (-1))), (0, .ref (q 0)), (1, .int (nI fi)), (2, .int lo)] → va_P (dC, dI) cls2 (xw q cI cZ cG (a) (f) (w)) H → va_D A (xw q cI cZ cG (a) (f) (w)) → va_S A s.heap H locs →
      (∀ (H : Heap) (locs : List Loc) (ls : Array Slot), lv_has ls 5 [(0, .ref (q 0)), (1, .int (nI fi)), (2, .int lo)] → va_P (dC, dI) cls2 (xw q cI cZ cG (a) (f) (xFromO a f n ms fi lo k w)) H → va_D A (xw q cI cZ cG (a) (f) (xFromO a f n ms fi lo k w)) → va_S A s.heap H locs → W p l e ({ frames := 3, cells := 0, slots := 0, locals := 75 }) s m args below meth c H locs cells slots Q (F0 m 67 ls [])) → W p l e ({ frames := 3, cells := 0, slots := 0, locals := 75 }) s m args below meth c H locs cells slots Q (F0 m 20 ls []) := by
  intro k
  induction k using Nat.strongRecOn with
  | ind k ih =>
    intro w H locs ls hk hl hP hD hS kk
    refine lv_iload_n hx hb dX_waysFrom_20 rfl (lv_at hl 0 rfl) ?_
    refine lv_iload_n hx hb dX_waysFrom_21 rfl (lv_at hl 2 rfl) ?_
    refine lv_icmp_lt (tgt := 67) hx hb dX_waysFrom_22 (by decide) (fun c_22 => ?_) (fun c_22 => ?_) <;> rw [nr_below (by omega) (by omega)] at c_22
    · exact kk H locs ls (lv_sub hl [1, 2, 3] rfl) (by rw [xFromO_out c_22]; exact hP) (by rw [xFromO_out c_22]; exact hD) hS
    rw [nr_dec (by omega)] at hl
    refine lv_iconst (v := 0) hx hb dX_waysFrom_25 (by decide) ?_
    refine lv_istore (lv' := [(4, .int (0)), (3, .int (nI (k - 1))), (0, .ref (q 0)), (1, .int (nI (fi))), (2, .int (lo))]) hx hb dX_waysFrom_26 hl (by decide) rfl (fun ls hl => ?_)
    refine lX_waysFromI l dC dI q cI cZ cG a f n ms fi lo hn hf1 h0 hm hf4 h1 hcs hx hb hml hown hbw hK (k - 1) (by omega) ms 0 w H locs ls (by omega) (by omega) (lv_sub hl [0, 1, 2, 3, 4] rfl) hP hD hS (fun H locs ls hl hP hD hS => ?_)
    refine lv_iinc (v := nI (k - 1) + Int32.ofInt (-1)) (lv' := [(3, .int (nI (k - 1) + Int32.ofInt (-1))), (0, .ref (q 0)), (1, .int (nI (fi))), (2, .int (lo))]) hx hb dX_waysFrom_61 hl (k := 0) rfl rfl (by decide) rfl (fun ls hl => ?_)
    refine lv_goto (tgt := 20) hx hb dX_waysFrom_64 (by decide) ?_
    exact ih (k - 1) (by omega) _ _ _ ls (by omega) (lv_sub hl [0, 1, 2, 3] rfl) hP hD hS (fun H locs ls hl hP hD hS => kk H locs ls hl (by rw [xFromO_in (by omega)]; exact hP) (by rw [xFromO_in (by omega)]; exact hD) hS)
set_option maxHeartbeats 4000000 in
set_option maxRecDepth 100000 in
/-- waysFrom(first, lowestEnd) -/
theorem tX_waysFrom (l : Launch) (dC : Nat → ClassId) (dI : Nat → Nat → Nat) (q : Nat → Nat) (cI cZ cG : ClassId) (a : Nat → Nat → Int32) (f : Nat → Int32) (w : Nat → Nat → Int32) (sz : Nat) (n ms fi : Nat) (lo : Int32) (hn : n ≤ 16) (hf1 : f 1 = nI n) (h0 : 1 ≤ ms) (hm : ms ≤ 5) (hf4 : f 4 = nI ms) (h1 : fi < n) : Met l yX_waysFrom wX_waysFrom ({ frames := 3, cells := 0, slots := 0, locals := 75 }) (va_Pc [.ref (q 0), .int (nI (fi)), .int (lo)] (fun U => U.heap.size = sz ∧ va_P (dC, dI) cls2 (xw q cI cZ cG a f w) U.heap ∧ va_K (dC, dI) cls2 (xt cI cZ cG) U ∧ va_D (fun _ => True) (xw q cI cZ cG a f w))) (va_Qi (fun (r0 : Int32) (u : XS) => r0 = xFromR a f n ms fi lo w ∧ u = (a, f, xFromW a f n ms fi lo w)) (atX dC dI q cI cZ cG (va_A (xw q cI cZ cG a f w) sz)) (va_A (xw q cI cZ cG a f w) sz)) 0 0 (va_A (xw q cI cZ cG a f w) sz) := by
  refine Met.ofW (cc := cX_waysFrom) (maxL := 5) (ret := (some .int)) (by decide) rfl ?_
  intro p e s m args below meth c s₁ B hml hv
  obtain ⟨rfl, hsz, hP, hK, hD0⟩ := hv
  have hx := B.exec
  have hb := B.bytes
  have hr := B.returns
  have hbw : ∀ w ∈ bw, w.before _ s = true := fun w h => atoms_spec (ws := wX_waysFrom) B.pre w (List.mem_cons_of_mem _ h)
  have hown : s.vm.findClass "EventPatterns" = some m.cls := findClass_of_methodNamed B.named
  have hlocks := B.notSynchronized
  subst hsz
  have hD := hD0.self (sz := s.heap.size)
  generalize hAe : va_A (xw q cI cZ cG a f w) s.heap.size = A at hD ⊢
  have hA : ∀ q : Nat, s.heap.size ≤ q → A q := fun q h => by rw [← hAe]; exact Or.inr h
  have hS : va_S A s.heap s.heap [] := va_S.rf
  have hl := lv_entry ([.ref (q 0), .int (nI (fi)), .int (lo)]) (n := 5) (Nat.le_of_ble_eq_true rfl)
  rw [lg_entry_eq]
  generalize (lg_sl ([.ref (q 0), .int (nI (fi)), .int (lo)]) ++ List.replicate (5 - (lg_sl ([.ref (q 0), .int (nI (fi)), .int (lo)])).length) Slot.unset).toArray = ls at hl ⊢
  have hl : lv_has ls 5 [(0, .ref (q 0)), (1, .int (nI (fi))), (2, .int (lo))] := hl
  refine lv_aload_n hx hb dX_waysFrom_0 rfl (lv_at hl 0 rfl) ?_
  refine lv_iload_n hx hb dX_waysFrom_1 rfl (lv_at hl 1 rfl) ?_
  refine lv_iconst (v := 0) hx hb dX_waysFrom_2 (by decide) ?_
  refine lv_iload_n hx hb dX_waysFrom_3 rfl (lv_at hl 1 rfl) ?_
  refine lv_iload_n hx hb dX_waysFrom_4 rfl (lv_at hl 1 rfl) ?_
  refine vp_callSi (W.runV (As := [.int (nI (fi)), .int (0), .int (nI (fi)), .int (nI (fi))]) (rest := []) ⟨hx, hb, hml, hown, hbw⟩ (tX_fits l dC dI q cI cZ cG a f (w) (fi) (0) (fi) (fi) (by omega) (by omega) (by omega) (by omega)) (cwV 4 hbw (bw_V km_X_127 ki_yX_fits ksel_yX_fits ki_EventPatterns kcX_fits) rfl rfl rfl (by decide +kernel) ⟨Nat.le_of_ble_eq_true rfl, Nat.le_of_ble_eq_true rfl⟩) ⟨fun a U g mk q => by obtain ⟨q0, qP, qK⟩ := q; exact ⟨q0, qP, va_K.moved (u := U) (U := U.calling g mk a) (Vm.Alike.refl U.vm) qK⟩, va_recv hK hP (ci := 0) (q0 := 0) rfl rfl, fun U hU hW => ⟨rfl, by rw [hU]; exact hP, va_K.moved hW.alike hK⟩⟩ rfl rfl hl.1 rfl (lv_room (Nat.le_of_ble_eq_true rfl)) dX_waysFrom_5 ⟨Nat.le_of_ble_eq_true rfl, Nat.le_of_ble_eq_true rfl⟩) (fun r_5 hq => ?_)
  subst hq
  refine nr_ifb_ne (tgt := 13) hx hb (b := (xFit a (fi) (0) (fi) (fi))) dX_waysFrom_8 (by decide) (fun c_8 => ?_) (fun c_8 => ?_)
  · refine lv_aload_n hx hb dX_waysFrom_13 rfl (lv_at hl 0 rfl) ?_
    refine va_get (D := (dC, dI)) (ci := 0) (v := .int (nI (n))) (C := "EventPatterns") (T := TX) (N := 16) hx hb hbw inX hown hK hP 0 rfl rfl 4 (by decide) (hbw _ kf_X_47) (fun _ h9 => h9) (congrArg (fun z => some (Value.int z)) (hf1)) dX_waysFrom_14 ?_
    refine lv_iconst (v := 1) hx hb dX_waysFrom_17 (by decide) ?_
    refine nr_isub hx hb (a1 := n) (b1 := 1) (by omega) dX_waysFrom_18 ?_
    refine lv_istore_n (lv' := [(3, .int (nI (n - 1))), (0, .ref (q 0)), (1, .int (nI (fi))), (2, .int (lo))]) hx hb dX_waysFrom_19 rfl hl (by decide) rfl (fun ls hl => ?_)
    rw [show nI (n - 1) = nI n + Int32.ofInt (-1) from (nr_dec (by omega)).symm] at hl
    refine lX_waysFromO l dC dI q cI cZ cG a f n ms fi lo hn hf1 h0 hm hf4 h1 ⟨Nat.le_refl _, Nat.le_refl _⟩ hx hb hml hown hbw hK n w s.heap [] ls (by omega) (lv_sub hl [0, 1, 2, 3] rfl) hP hD hS (fun H locs ls hl hP hD hS => ?_)
    refine lv_aload_n hx hb dX_waysFrom_67 rfl (lv_at hl 0 rfl) ?_
    refine va_get (D := (dC, dI)) (ci := 0) (v := .ref (q 8)) (C := "EventPatterns") (T := TX) (N := 16) hx hb hbw inX hown hK hP 0 rfl rfl 12 (by decide) (hbw _ kf_X_34) (fun _ h9 => h9) rfl dX_waysFrom_68 ?_
    refine lv_iload_n hx hb dX_waysFrom_71 rfl (lv_at hl 1 rfl) ?_
    refine nr_aald hx hb hK hP 8 2 rfl rfl (j := fi) (by omega) (by decide) dX_waysFrom_72 ?_
    refine W.eq (g2 := F0 m 73 ls [.ref (q (11 + (fi)))]) rfl ?_
    refine lv_iconst (v := 0) hx hb dX_waysFrom_73 (by decide) ?_
    refine nr_iald hx hb hK hP (11 + (fi)) 0 (xw_row q cI cZ cG _ _ _ (by omega)) rfl (j := 0) (by omega) (by decide) dX_waysFrom_74 ?_
    have eW : xFromW a f n ms fi lo w = xFromO a f n ms fi lo n w := by simp [xFromW, *]
    rw [← eW] at hP hD
    exact W.iret (v := ((xFromO a f n ms fi lo n w) (fi)) (0)) hx hb hr (fun t ht hW => ⟨⟨((xFromO a f n ms fi lo n w) (fi)) (0), (a, f, xFromW a f n ms fi lo w), rfl, ⟨by simp [xFromR, *], rfl⟩, by rw [ht]; exact hP, va_K.moved hW.alike hK, hD⟩, hS.F ht⟩) hS.2.2 dX_waysFrom_75
  · refine lv_iconst (v := 0) hx hb dX_waysFrom_11 (by decide) ?_
    have eW : xFromW a f n ms fi lo w = w := by simp [xFromW, *]
    rw [← eW] at hP hD
    exact W.iret (v := 0) hx hb hr (fun t ht hW => ⟨⟨0, (a, f, xFromW a f n ms fi lo w), rfl, ⟨by simp [xFromR, *], rfl⟩, by rw [ht]; exact hP, va_K.moved hW.alike hK, hD⟩, hS.F ht⟩) hS.2.2 dX_waysFrom_12
