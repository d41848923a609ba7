/-! THE REFERENCE: find, its two loops -/
def mStep (rc : Nat → Nat → Nat → Nat → (Nat → Nat → Int32) → (Nat → Int32) → MS) (q : Nat × Nat × Nat) (L : Nat) (b : Nat → Nat → Int32) (g : Nat → Int32) : MS := rc q.1 q.2.1 q.2.2 (L + 1) (mAdd b L q.1 q.2.1) (va_up g 5 (nI (L + 1)))
def mPathL (ev ms fi : Nat) : Nat → Nat → Nat → Nat → Nat → (Nat → Nat → Int32) → (Nat → Int32) → MS
  | 0, _, _, _, _, b, g => (b, g)
  | k + 1, e1, st, Lf, L, b, g => if st + 1 < ms ∨ 0 < Lf then mStep (mPathL ev ms fi k) (mPick b g ev ms fi e1 st (ev - (e1 + 1)) (e1 + 1) (if st + 1 = ms then Lf - 1 else Lf)) L b g else (b, g)
def mSel (b : Nat → Nat → Int32) (g : Nat → Int32) (ev ms : Nat) : Nat → Nat → Nat → Option (Nat × Nat)
  | 0, _, _ => none
  | k + 1, fi, Lf => if Lf < gF b g ev ms false fi then some (fi, Lf) else mSel b g ev ms k (fi + 1) (Lf - gF b g ev ms false fi)
set_option maxHeartbeats 4000000 in
set_option maxRecDepth 100000 in
theorem lM_path (l : Launch) (dC : Nat → ClassId) (dI : Nat → Nat → Nat) (r : Nat → Nat) (cI cZ cG : ClassId) {p : Program} {e : Env} {s : State} {m : MethodId} {args : Array Value} {below : List Frame} {meth : Method} {c : Code} {Q : State → Prop} {A : Nat → Prop} (ev ms fi : Nat) (kv : Int32) (hev : ev ≤ 400) (h0 : 1 ≤ ms) (hm : ms ≤ 5) (hbf : ev - 16 ≤ fi) {cells slots : Nat} (hcs : cells ≤ 0 ∧ slots ≤ 0) (hx : p.tables.exec = Jvm.exec) (hb : c.code = cM_find) (hml : c.maxLocals = 12) (hown : s.vm.findClass "EventPatternsModel" = some m.cls) (hbw : ∀ w ∈ bw, w.before args s = true) (hK : va_K (dC, dI) cls2 (xt cI cZ cG) s) (hA : ∀ q : Nat, s.heap.size ≤ q → A q) :
    ∀ (k e1 st Lf L : Nat) (b : Nat → Nat → Int32) (g : Nat → Int32) (y : Nat → Int32) (H : Heap) (locs : List Loc) (ls : Array Slot), g 1 = nI ev → g 4 = nI ms → g 5 = nI L → (g 2 = 0 ∨ g 2 = 1) → ev ≤ e1 + k → fi ≤ e1 → e1 < ev → st < ms → L + fi ≤ e1 + 1 → Lf < 2 ^ 31 → Lf < gW b g ev ms fi false (e1 - (ev - 16)) st → lv_has ls 12 [(2, .int (nI (Lf))), (6, .int (nI (st))), (5, .int (nI (e1))), (0, .ref (r 0)), (1, .int (kv)), (3, .int (nI (fi)))] → va_P (dC, dI) cls2 (mw r cI cZ (va_up (b) 7 (y)) (g)) H → va_D A (mw r cI cZ (va_up (b) 7 (y)) (g)) → va_S A s.heap H locs →
      (∀ (y : Nat → Int32) (H : Heap) (locs : List Loc) (ls : Array Slot), va_P (dC, dI) cls2 (mw r cI cZ (va_up ((mPathL ev ms fi (k + 1) e1 st Lf L b g).1) 7 (y)) ((mPathL ev ms fi (k + 1) e1 st Lf L b g).2)) H → va_D A (mw r cI cZ (va_up ((mPathL ev ms fi (k + 1) e1 st Lf L b g).1) 7 (y)) ((mPathL ev ms fi (k + 1) e1 st Lf L b g).2)) → va_S A s.heap H locs → W p l e ({ frames := 2, cells := 0, slots := 0, locals := 57 }) s m args below meth c H locs cells slots Q (F0 m 350 ls [])) → W p l e ({ frames := 2, cells := 0, slots := 0, locals := 57 }) s m args below meth c H locs cells slots Q (F0 m 129 ls []) := by
  intro k
  induction k using Nat.strongRecOn with
  | ind k ih =>
    intro e1 st Lf L b g y H locs ls hg1 hg4 hg5 hsy hk hfe he hst hL hLf31 hLf hl hP hD hS kk
    rw [gW_rest (b := b) (g := g) (fi := fi) (by omega) he hst hm hsy] at hLf
    refine lv_iload hx hb dM_find_129 (lv_at hl 1 rfl) ?_
    refine lv_aload_n hx hb dM_find_131 rfl (lv_at hl 3 rfl) ?_
    refine va_get (D := (dC, dI)) (ci := 1) (v := .int (nI (ms))) (C := "EventPatternsModel") (T := TM) (N := 16) hx hb hbw inM hown hK hP 0 rfl rfl 7 (by decide) (hbw _ kf_M_63) (fun _ h9 => h9) (congrArg (fun z => some (Value.int z)) (hg4)) dM_find_132 ?_
    refine lv_iconst (v := 1) hx hb dM_find_135 (by decide) ?_
    refine nr_isub hx hb (a1 := ms) (b1 := 1) (by omega) dM_find_136 ?_
    refine nr_icmp_lt (tgt := 144) hx hb (a1 := st) (b1 := ms - 1) (by omega) (by omega) dM_find_137 (by decide) (fun c_137 => ?_) (fun c_137 => ?_)
    · refine lv_iload hx hb dM_find_144 (lv_at hl 1 rfl) ?_
      refine lv_aload_n hx hb dM_find_146 rfl (lv_at hl 3 rfl) ?_
      refine va_get (D := (dC, dI)) (ci := 1) (v := .int (nI (ms))) (C := "EventPatternsModel") (T := TM) (N := 16) hx hb hbw inM hown hK hP 0 rfl rfl 7 (by decide) (hbw _ kf_M_63) (fun _ h9 => h9) (congrArg (fun z => some (Value.int z)) (hg4)) dM_find_147 ?_
      refine lv_iconst (v := 1) hx hb dM_find_150 (by decide) ?_
      refine nr_isub hx hb (a1 := ms) (b1 := 1) (by omega) dM_find_151 ?_
      refine nr_icmp_ne (tgt := 161) hx hb (a1 := st) (b1 := ms - 1) (by omega) (by omega) dM_find_152 (by decide) (fun _ => ?_) (fun c9 => absurd c9 (by omega))
      refine lv_iload_n hx hb dM_find_161 rfl (lv_at hl 0 rfl) ?_
      refine lv_istore_n (lv' := [(2, .int (nI (Lf))), (6, .int (nI (st))), (5, .int (nI (e1))), (0, .ref (r 0)), (1, .int (kv)), (3, .int (nI (fi)))]) hx hb dM_find_162 rfl hl (by decide) rfl (fun ls hl => ?_)
      refine lv_iload hx hb dM_find_163 (lv_at hl 2 rfl) ?_
      refine lv_iconst (v := 1) hx hb dM_find_165 (by decide) ?_
      refine nr_iadd hx hb (a1 := e1) (b1 := 1) dM_find_166 ?_
      refine lv_istore (lv' := [(7, .int (nI (e1 + 1))), (2, .int (nI (Lf))), (6, .int (nI (st))), (5, .int (nI (e1))), (0, .ref (r 0)), (1, .int (kv)), (3, .int (nI (fi)))]) hx hb dM_find_167 hl (by decide) rfl (fun ls hl => ?_)
      refine lv_iload hx hb dM_find_169 (lv_at hl 2 rfl) ?_
      refine lv_istore (lv' := [(8, .int (nI (st))), (7, .int (nI (e1 + 1))), (2, .int (nI (Lf))), (6, .int (nI (st))), (5, .int (nI (e1))), (0, .ref (r 0)), (1, .int (kv)), (3, .int (nI (fi)))]) hx hb dM_find_171 hl (by decide) rfl (fun ls hl => ?_)
      refine lv_iconst (v := 0) hx hb dM_find_173 (by decide) ?_
      refine lv_istore (lv' := [(9, .int (0)), (8, .int (nI (st))), (7, .int (nI (e1 + 1))), (2, .int (nI (Lf))), (6, .int (nI (st))), (5, .int (nI (e1))), (0, .ref (r 0)), (1, .int (kv)), (3, .int (nI (fi)))]) hx hb dM_find_174 hl (by decide) rfl (fun ls hl => ?_)
      rw [if_neg (by omega)] at hLf
      refine lM_pick l dC dI r cI cZ cG b g ev ms fi e1 st kv hev hg1 h0 hm hg4 hfe he (by omega) hst hcs hx hb hml hown hbw hK hA (ev - (e1 + 1)) (e1 + 1) (Lf) y H locs ls (by omega) (by omega) (by omega) (by omega) (lv_sub hl [3, 2, 1, 0, 6, 7, 8, 5, 4] rfl) hP hD hS (fun y H locs ls hl hP hD hS => ?_)
      obtain ⟨p1, p2, p3, p4, p5⟩ := mPick_ok (b := b) (g := g) (ev := ev) (ms := ms) (fi := fi) (e1 := e1) (st := st) hst (ev - (e1 + 1)) (e1 + 1) (Lf) (by omega) (by omega) (by omega)
      have eP : mPathL ev ms fi (k + 1) e1 st Lf L b g = mStep (mPathL ev ms fi k) (mPick b g ev ms fi e1 st (ev - (e1 + 1)) (e1 + 1) (Lf)) L b g := by rw [mPathL, if_pos (by omega), if_neg (by omega)]
      rw [eP] at kk
      generalize mPick b g ev ms fi e1 st (ev - (e1 + 1)) (e1 + 1) (Lf) = qq at hl p1 p2 p3 p4 p5 kk
      refine lv_iload hx hb dM_find_331 (lv_at hl 1 rfl) ?_
      refine lv_istore (lv' := [(5, .int (nI (qq.1))), (2, .int (nI (qq.2.2))), (7, .int (nI (qq.1))), (8, .int (nI (qq.2.1))), (0, .ref (r 0)), (1, .int (kv)), (3, .int (nI (fi))), (6, .int (nI (st)))]) hx hb dM_find_333 hl (by decide) rfl (fun ls hl => ?_)
      refine lv_iload hx hb dM_find_335 (lv_at hl 3 rfl) ?_
      refine lv_istore (lv' := [(6, .int (nI (qq.2.1))), (5, .int (nI (qq.1))), (2, .int (nI (qq.2.2))), (7, .int (nI (qq.1))), (8, .int (nI (qq.2.1))), (0, .ref (r 0)), (1, .int (kv)), (3, .int (nI (fi)))]) hx hb dM_find_337 hl (by decide) rfl (fun ls hl => ?_)
      refine lv_aload_n hx hb dM_find_339 rfl (lv_at hl 5 rfl) ?_
      refine lv_iload hx hb dM_find_340 (lv_at hl 1 rfl) ?_
      refine lv_iload hx hb dM_find_342 (lv_at hl 0 rfl) ?_
      have hFc := va_free (wc := mw r cI cZ (va_up b 7 (y)) (g)) hD hS hA (List.range 11) rfl
      refine va_callv (va_runV (As := [.int (nI (qq.1)), .int (nI (qq.2.1))]) (rest := []) ⟨hx, hb, hml, hown, hbw⟩ (tM_notes l dC dI r cI cZ cG (va_up b 7 (y)) (g) H.size (L) (qq.1) (qq.2.1) (by omega) (hg5)) (cwV 2 hbw (bw_V km_M_85 ki_yM_notes ksel_yM_notes ki_EventPatternsModel kcM_notes) rfl rfl rfl (by decide +kernel) ⟨Nat.le_of_ble_eq_true rfl, Nat.le_of_ble_eq_true rfl⟩) ⟨fun a U g mk q => by obtain ⟨q0, q1, qP, qK, qD⟩ := q; exact ⟨q0, q1, qP, va_K.moved (u := U) (U := U.calling g mk a) (Vm.Alike.refl U.vm) qK, qD⟩, va_recv hK hP (ci := 1) (q0 := 0) rfl rfl, fun U hU hW => ⟨rfl, by rw [hU], by rw [hU]; exact hP, va_K.moved hW.alike hK, hD.weaken (fun _ _ _ _ => trivial)⟩⟩ rfl rfl hl.1 rfl (lv_room (Nat.le_of_ble_eq_true rfl)) dM_find_344 ⟨hcs.1, hcs.2⟩) hS (fun q _ h => hFc q h) hFc (fun u t H1 locs ht hvm hq hB hz1 hk1 hS => ?_)
      obtain rfl := hq
      obtain ⟨hP1, hK1, hD1⟩ := hB
      rw [ht] at hP1
      have hP : va_P (dC, dI) cls2 (mw r cI cZ (va_up (mAdd (b) (L) (qq.1) (qq.2.1)) 7 (y)) (va_up (g) 5 (nI (L + 1)))) H1 := hP1
      have hD : va_D A (mw r cI cZ (va_up (mAdd (b) (L) (qq.1) (qq.2.1)) 7 (y)) (va_up (g) 5 (nI (L + 1)))) := hD1.weaken (fun _ _ _ h => hFc _ h)
      generalize H1 = H at hP hS ⊢
      refine lv_goto (tgt := 129) hx hb dM_find_347 (by decide) ?_
      refine ih (k - 1) (by omega) qq.1 qq.2.1 qq.2.2 (L + 1) (mAdd b L qq.1 qq.2.1) (va_up g 5 (nI (L + 1))) y H locs ls hg1 hg4 rfl hsy (by omega) (by omega) (by omega) (by omega) (by omega) (by omega) ?_ (lv_sub hl [2, 0, 1, 5, 6, 7] rfl) hP hD hS (fun y H locs ls hP hD hS => ?_)
      · rw [gW_c (b := b) (b2 := mAdd b L qq.1 qq.2.1) (g := g) (g2 := va_up g 5 (nI (L + 1))) (fun i hi => by unfold mAdd; rw [va_up_ne _ _ (by omega), va_up_ne _ _ (by omega)]) rfl rfl]; exact p5
      · refine kk y H locs ls ?_ ?_ hS
        · unfold mStep; rw [show k - 1 + 1 = k by omega] at hP; exact hP
        · unfold mStep; rw [show k - 1 + 1 = k by omega] at hD; exact hD
    · refine lv_iload_n hx hb dM_find_140 rfl (lv_at hl 0 rfl) ?_
      refine nr_if_le (tgt := 350) hx hb (a1 := Lf) (by omega) dM_find_141 (by decide) (fun c_141 => ?_) (fun c_141 => ?_)
      · have eP : mPathL ev ms fi (k + 1) e1 st Lf L b g = (b, g) := by rw [mPathL, if_neg (by omega)]
        rw [eP] at kk
        exact kk y H locs ls hP hD hS
      · refine lv_iload hx hb dM_find_144 (lv_at hl 1 rfl) ?_
        refine lv_aload_n hx hb dM_find_146 rfl (lv_at hl 3 rfl) ?_
        refine va_get (D := (dC, dI)) (ci := 1) (v := .int (nI (ms))) (C := "EventPatternsModel") (T := TM) (N := 16) hx hb hbw inM hown hK hP 0 rfl rfl 7 (by decide) (hbw _ kf_M_63) (fun _ h9 => h9) (congrArg (fun z => some (Value.int z)) (hg4)) dM_find_147 ?_
        refine lv_iconst (v := 1) hx hb dM_find_150 (by decide) ?_
        refine nr_isub hx hb (a1 := ms) (b1 := 1) (by omega) dM_find_151 ?_
        refine nr_icmp_ne (tgt := 161) hx hb (a1 := st) (b1 := ms - 1) (by omega) (by omega) dM_find_152 (by decide) (fun c9 => absurd c9 (by omega)) (fun _ => ?_)
        refine lv_iload_n hx hb dM_find_155 rfl (lv_at hl 0 rfl) ?_
        refine lv_iconst (v := 1) hx hb dM_find_156 (by decide) ?_
        refine nr_isub hx hb (a1 := Lf) (b1 := 1) (by omega) dM_find_157 ?_
        refine lv_goto (tgt := 162) hx hb dM_find_158 (by decide) ?_
        refine lv_istore_n (lv' := [(2, .int (nI (Lf - 1))), (6, .int (nI (st))), (5, .int (nI (e1))), (0, .ref (r 0)), (1, .int (kv)), (3, .int (nI (fi)))]) hx hb dM_find_162 rfl hl (by decide) rfl (fun ls hl => ?_)
        refine lv_iload hx hb dM_find_163 (lv_at hl 2 rfl) ?_
        refine lv_iconst (v := 1) hx hb dM_find_165 (by decide) ?_
        refine nr_iadd hx hb (a1 := e1) (b1 := 1) dM_find_166 ?_
        refine lv_istore (lv' := [(7, .int (nI (e1 + 1))), (2, .int (nI (Lf - 1))), (6, .int (nI (st))), (5, .int (nI (e1))), (0, .ref (r 0)), (1, .int (kv)), (3, .int (nI (fi)))]) hx hb dM_find_167 hl (by decide) rfl (fun ls hl => ?_)
        refine lv_iload hx hb dM_find_169 (lv_at hl 2 rfl) ?_
        refine lv_istore (lv' := [(8, .int (nI (st))), (7, .int (nI (e1 + 1))), (2, .int (nI (Lf - 1))), (6, .int (nI (st))), (5, .int (nI (e1))), (0, .ref (r 0)), (1, .int (kv)), (3, .int (nI (fi)))]) hx hb dM_find_171 hl (by decide) rfl (fun ls hl => ?_)
        refine lv_iconst (v := 0) hx hb dM_find_173 (by decide) ?_
        refine lv_istore (lv' := [(9, .int (0)), (8, .int (nI (st))), (7, .int (nI (e1 + 1))), (2, .int (nI (Lf - 1))), (6, .int (nI (st))), (5, .int (nI (e1))), (0, .ref (r 0)), (1, .int (kv)), (3, .int (nI (fi)))]) hx hb dM_find_174 hl (by decide) rfl (fun ls hl => ?_)
        rw [if_pos (by omega)] at hLf
        refine lM_pick l dC dI r cI cZ cG b g ev ms fi e1 st kv hev hg1 h0 hm hg4 hfe he (by omega) hst hcs hx hb hml hown hbw hK hA (ev - (e1 + 1)) (e1 + 1) (Lf - 1) y H locs ls (by omega) (by omega) (by omega) (by omega) (lv_sub hl [3, 2, 1, 0, 6, 7, 8, 5, 4] rfl) hP hD hS (fun y H locs ls hl hP hD hS => ?_)
        obtain ⟨p1, p2, p3, p4, p5⟩ := mPick_ok (b := b) (g := g) (ev := ev) (ms := ms) (fi := fi) (e1 := e1) (st := st) hst (ev - (e1 + 1)) (e1 + 1) (Lf - 1) (by omega) (by omega) (by omega)
        have eP : mPathL ev ms fi (k + 1) e1 st Lf L b g = mStep (mPathL ev ms fi k) (mPick b g ev ms fi e1 st (ev - (e1 + 1)) (e1 + 1) (Lf - 1)) L b g := by rw [mPathL, if_pos (by omega), if_pos (by omega)]
        rw [eP] at kk
        generalize mPick b g ev ms fi e1 st (ev - (e1 + 1)) (e1 + 1) (Lf - 1) = qq at hl p1 p2 p3 p4 p5 kk
        refine lv_iload hx hb dM_find_331 (lv_at hl 1 rfl) ?_
        refine lv_istore (lv' := [(5, .int (nI (qq.1))), (2, .int (nI (qq.2.2))), (7, .int (nI (qq.1))), (8, .int (nI (qq.2.1))), (0, .ref (r 0)), (1, .int (kv)), (3, .int (nI (fi))), (6, .int (nI (st)))]) hx hb dM_find_333 hl (by decide) rfl (fun ls hl => ?_)
        refine lv_iload hx hb dM_find_335 (lv_at hl 3 rfl) ?_
        refine lv_istore (lv' := [(6, .int (nI (qq.2.1))), (5, .int (nI (qq.1))), (2, .int (nI (qq.2.2))), (7, .int (nI (qq.1))), (8, .int (nI (qq.2.1))), (0, .ref (r 0)), (1, .int (kv)), (3, .int (nI (fi)))]) hx hb dM_find_337 hl (by decide) rfl (fun ls hl => ?_)
        refine lv_aload_n hx hb dM_find_339 rfl (lv_at hl 5 rfl) ?_
        refine lv_iload hx hb dM_find_340 (lv_at hl 1 rfl) ?_
        refine lv_iload hx hb dM_find_342 (lv_at hl 0 rfl) ?_
        have hFc := va_free (wc := mw r cI cZ (va_up b 7 (y)) (g)) hD hS hA (List.range 11) rfl
        refine va_callv (va_runV (As := [.int (nI (qq.1)), .int (nI (qq.2.1))]) (rest := []) ⟨hx, hb, hml, hown, hbw⟩ (tM_notes l dC dI r cI cZ cG (va_up b 7 (y)) (g) H.size (L) (qq.1) (qq.2.1) (by omega) (hg5)) (cwV 2 hbw (bw_V km_M_85 ki_yM_notes ksel_yM_notes ki_EventPatternsModel kcM_notes) rfl rfl rfl (by decide +kernel) ⟨Nat.le_of_ble_eq_true rfl, Nat.le_of_ble_eq_true rfl⟩) ⟨fun a U g mk q => by obtain ⟨q0, q1, qP, qK, qD⟩ := q; exact ⟨q0, q1, qP, va_K.moved (u := U) (U := U.calling g mk a) (Vm.Alike.refl U.vm) qK, qD⟩, va_recv hK hP (ci := 1) (q0 := 0) rfl rfl, fun U hU hW => ⟨rfl, by rw [hU], by rw [hU]; exact hP, va_K.moved hW.alike hK, hD.weaken (fun _ _ _ _ => trivial)⟩⟩ rfl rfl hl.1 rfl (lv_room (Nat.le_of_ble_eq_true rfl)) dM_find_344 ⟨hcs.1, hcs.2⟩) hS (fun q _ h => hFc q h) hFc (fun u t H1 locs ht hvm hq hB hz1 hk1 hS => ?_)
        obtain rfl := hq
        obtain ⟨hP1, hK1, hD1⟩ := hB
        rw [ht] at hP1
        have hP : va_P (dC, dI) cls2 (mw r cI cZ (va_up (mAdd (b) (L) (qq.1) (qq.2.1)) 7 (y)) (va_up (g) 5 (nI (L + 1)))) H1 := hP1
        have hD : va_D A (mw r cI cZ (va_up (mAdd (b) (L) (qq.1) (qq.2.1)) 7 (y)) (va_up (g) 5 (nI (L + 1)))) := hD1.weaken (fun _ _ _ h => hFc _ h)
        generalize H1 = H at hP hS ⊢
        refine lv_goto (tgt := 129) hx hb dM_find_347 (by decide) ?_
        refine ih (k - 1) (by omega) qq.1 qq.2.1 qq.2.2 (L + 1) (mAdd b L qq.1 qq.2.1) (va_up g 5 (nI (L + 1))) y H locs ls hg1 hg4 rfl hsy (by omega) (by omega) (by omega) (by omega) (by omega) (by omega) ?_ (lv_sub hl [2, 0, 1, 5, 6, 7] rfl) hP hD hS (fun y H locs ls hP hD hS => ?_)
        · rw [gW_c (b := b) (b2 := mAdd b L qq.1 qq.2.1) (g := g) (g2 := va_up g 5 (nI (L + 1))) (fun i hi => by unfold mAdd; rw [va_up_ne _ _ (by omega), va_up_ne _ _ (by omega)]) rfl rfl]; exact p5
        · refine kk y H locs ls ?_ ?_ hS
          · unfold mStep; rw [show k - 1 + 1 = k by omega] at hP; exact hP
          · unfold mStep; rw [show k - 1 + 1 = k by omega] at hD; exact hD
set_option maxHeartbeats 4000000 in
set_option maxRecDepth 100000 in
theorem lM_sel (l : Launch) (dC : Nat → ClassId) (dI : Nat → Nat → Nat) (r : Nat → Nat) (cI cZ cG : ClassId) (b : Nat → Nat → Int32) (g : Nat → Int32) {p : Program} {e : Env} {s : State} {m : MethodId} {args : Array Value} {below : List Frame} {meth : Method} {c : Code} {Q : State → Prop} {A : Nat → Prop} (ev ms : Nat) (kv : Int32) (hev : ev ≤ 400) (h0 : 1 ≤ ms) (hm : ms ≤ 5) (hg1 : g 1 = nI ev) (hg4 : g 4 = nI ms) {cells slots : Nat} (hcs : cells ≤ 0 ∧ slots ≤ 0) (hx : p.tables.exec = Jvm.exec) (hb : c.code = cM_find) (hml : c.maxLocals = 12) (hown : s.vm.findClass "EventPatternsModel" = some m.cls) (hbw : ∀ w ∈ bw, w.before args s = true) (hK : va_K (dC, dI) cls2 (xt cI cZ cG) s) (hA : ∀ q : Nat, s.heap.size ≤ q → A q) :
    ∀ (k fi Lf : Nat) (y : Nat → Int32) (H : Heap) (locs : List Loc) (ls : Array Slot), fi + k = ev → ev - 16 ≤ fi → Lf < 2 ^ 31 → lv_has ls 12 [(4, .int (1)), (3, .int (nI (fi))), (2, .int (nI (Lf))), (0, .ref (r 0)), (1, .int (kv))] → va_P (dC, dI) cls2 (mw r cI cZ (va_up (b) 7 (y)) (g)) H → va_D A (mw r cI cZ (va_up (b) 7 (y)) (g)) → va_S A s.heap H locs →
      (mSel b g ev ms k fi Lf = none → ∀ (y : Nat → Int32) (H : Heap) (locs : List Loc) (ls : Array Slot), lv_has ls 12 [(4, .int (1)), (0, .ref (r 0)), (1, .int (kv))] → va_P (dC, dI) cls2 (mw r cI cZ (va_up (b) 7 (y)) (g)) H → va_D A (mw r cI cZ (va_up (b) 7 (y)) (g)) → va_S A s.heap H locs → W p l e ({ frames := 2, cells := 0, slots := 0, locals := 57 }) s m args below meth c H locs cells slots Q (F0 m 104 ls [])) →
      (∀ fi2 Lf2 : Nat, mSel b g ev ms k fi Lf = some (fi2, Lf2) → (ev - 16 ≤ fi2 ∧ fi2 < ev ∧ Lf2 < 2 ^ 31 ∧ Lf2 < gF b g ev ms false fi2) → ∀ (y : Nat → Int32) (H : Heap) (locs : List Loc) (ls : Array Slot), lv_has ls 12 [(4, .int (0)), (3, .int (nI (fi2))), (2, .int (nI (Lf2))), (0, .ref (r 0)), (1, .int (kv))] → va_P (dC, dI) cls2 (mw r cI cZ (va_up (b) 7 (y)) (g)) H → va_D A (mw r cI cZ (va_up (b) 7 (y)) (g)) → va_S A s.heap H locs → W p l e ({ frames := 2, cells := 0, slots := 0, locals := 57 }) s m args below meth c H locs cells slots Q (F0 m 104 ls [])) → W p l e ({ frames := 2, cells := 0, slots := 0, locals := 57 }) s m args below meth c H locs cells slots Q (F0 m 23 ls []) := by
  intro k
  induction k using Nat.strongRecOn with
  | ind k ih =>
    intro fi Lf y H locs ls hk hfi hLf hl hP hD hS kN kS
    refine lv_iload hx hb dM_find_23 (lv_at hl 0 rfl) ?_
    refine lv_if_eq (tgt := 104) hx hb dM_find_25 (by decide) (fun c9 => absurd c9 (by decide)) (fun _ => ?_)
    refine lv_iload_n hx hb dM_find_28 rfl (lv_at hl 1 rfl) ?_
    refine lv_aload_n hx hb dM_find_29 rfl (lv_at hl 3 rfl) ?_
    refine va_get (D := (dC, dI)) (ci := 1) (v := .int (nI (ev))) (C := "EventPatternsModel") (T := TM) (N := 16) hx hb hbw inM hown hK hP 0 rfl rfl 1 (by decide) (hbw _ kf_M_45) (fun _ h9 => h9) (congrArg (fun z => some (Value.int z)) (hg1)) dM_find_30 ?_
    refine nr_icmp_ge (tgt := 104) hx hb (a1 := fi) (b1 := ev) (by omega) (by omega) dM_find_33 (by decide) (fun c_33 => ?_) (fun c_33 => ?_)
    · obtain rfl : k = 0 := by omega
      exact kN rfl _ H locs ls (lv_sub hl [0, 3, 4] rfl) hP hD hS
    · refine lv_aload_n hx hb dM_find_36 rfl (lv_at hl 3 rfl) ?_
      refine lv_iload_n hx hb dM_find_37 rfl (lv_at hl 1 rfl) ?_
      refine lv_iconst (v := 0) hx hb dM_find_38 (by decide) ?_
      refine lv_iconst (v := (-1)) hx hb dM_find_39 (by decide) ?_
      refine lv_iload_n hx hb dM_find_40 rfl (lv_at hl 1 rfl) ?_
      refine vp_callSi (W.runV (As := [.int (nI (fi)), .int (0), .int ((-1)), .int (nI (fi))]) (rest := []) ⟨hx, hb, hml, hown, hbw⟩ (tM_fits0 l dC dI r cI cZ cG (va_up b 7 (y)) (g) (fi) (0) (fi) (by omega) (by omega) (by omega)) (cwV 4 hbw (bw_V km_M_70 ki_yM_fits ksel_yM_fits ki_EventPatternsModel kcM_fits) rfl rfl rfl (by decide +kernel) ⟨Nat.le_of_ble_eq_true rfl, Nat.le_of_ble_eq_true rfl⟩) ⟨fun a U g mk q => by obtain ⟨q0, qP, qK⟩ := q; exact ⟨q0, qP, va_K.moved (u := U) (U := U.calling g mk a) (Vm.Alike.refl U.vm) qK⟩, va_recv hK hP (ci := 1) (q0 := 0) rfl rfl, fun U hU hW => ⟨rfl, by rw [hU]; exact hP, va_K.moved hW.alike hK⟩⟩ rfl rfl hl.1 rfl (lv_room (Nat.le_of_ble_eq_true rfl)) dM_find_41 ⟨hcs.1, hcs.2⟩) (fun r_41 hq => ?_)
      have hq : r_41 = bI (mFit0 b g (fi) (0) (fi)) := hq
      subst hq
      refine nr_ifb_eq (tgt := 58) hx hb (b := (mFit0 b g (fi) (0) (fi))) dM_find_44 (by decide) (fun c_44 => ?_) (fun c_44 => ?_)
      · refine lv_iconst (v := 0) hx hb dM_find_58 (by decide) ?_
        refine W.eq (g2 := F0 m 59 ls [.int (nI (gF b g ev ms false fi))]) (by unfold gF; first | rw [if_pos c_44] | (rw [if_neg (by rw [c_44]; decide)]; rfl)) ?_
        have hgF : gF b g ev ms false fi ≤ 14348907 := gF_le b g ev ms false (by omega)
        refine lv_istore (lv' := [(5, .int (nI (gF b g ev ms false fi))), (4, .int (1)), (3, .int (nI (fi))), (2, .int (nI (Lf))), (0, .ref (r 0)), (1, .int (kv))]) hx hb dM_find_59 hl (by decide) rfl (fun ls hl => ?_)
        refine lv_iload_n hx hb dM_find_61 rfl (lv_at hl 3 rfl) ?_
        refine lv_iload hx hb dM_find_62 (lv_at hl 0 rfl) ?_
        refine nr_icmp_lt (tgt := 71) hx hb (a1 := Lf) (b1 := gF b g ev ms false fi) (by omega) (by omega) dM_find_64 (by decide) (fun c_64 => ?_) (fun c_64 => ?_)
        · refine lv_iconst (v := 0) hx hb dM_find_71 (by decide) ?_
          refine lv_istore (lv' := [(4, .int (0)), (5, .int (nI (gF b g ev ms false fi))), (3, .int (nI (fi))), (2, .int (nI (Lf))), (0, .ref (r 0)), (1, .int (kv))]) hx hb dM_find_72 hl (by decide) rfl (fun ls hl => ?_)
          refine lv_iload hx hb dM_find_74 (lv_at hl 0 rfl) ?_
          refine lv_if_eq (tgt := 86) hx hb dM_find_76 (by decide) (fun _ => ?_) (fun c9 => absurd c9 (by decide))
          refine lv_iload_n hx hb dM_find_86 rfl (lv_at hl 3 rfl) ?_
          refine lv_istore_n (lv' := [(2, .int (nI (Lf))), (4, .int (0)), (5, .int (nI (gF b g ev ms false fi))), (3, .int (nI (fi))), (0, .ref (r 0)), (1, .int (kv))]) hx hb dM_find_87 rfl hl (by decide) rfl (fun ls hl => ?_)
          refine lv_iload hx hb dM_find_88 (lv_at hl 1 rfl) ?_
          refine lv_if_eq (tgt := 99) hx hb dM_find_90 (by decide) (fun _ => ?_) (fun c9 => absurd c9 (by decide))
          refine lv_iload_n hx hb dM_find_99 rfl (lv_at hl 3 rfl) ?_
          refine lv_istore_n (lv' := [(3, .int (nI (fi))), (2, .int (nI (Lf))), (4, .int (0)), (5, .int (nI (gF b g ev ms false fi))), (0, .ref (r 0)), (1, .int (kv))]) hx hb dM_find_100 rfl hl (by decide) rfl (fun ls hl => ?_)
          refine lv_goto (tgt := 23) hx hb dM_find_101 (by decide) ?_
          refine lv_iload hx hb dM_find_23 (lv_at hl 2 rfl) ?_
          refine lv_if_eq (tgt := 104) hx hb dM_find_25 (by decide) (fun _ => ?_) (fun c9 => absurd c9 (by decide))
          obtain ⟨k1, rfl⟩ : ∃ k1, k = k1 + 1 := ⟨k - 1, by omega⟩
          exact kS fi Lf (by rw [mSel, if_pos c_64]) ⟨hfi, by omega, hLf, c_64⟩ _ H locs ls (lv_sub hl [2, 0, 1, 4, 5] rfl) hP hD hS
        · refine lv_iconst (v := 1) hx hb dM_find_67 (by decide) ?_
          refine lv_goto (tgt := 72) hx hb dM_find_68 (by decide) ?_
          refine lv_istore (lv' := [(4, .int (1)), (5, .int (nI (gF b g ev ms false fi))), (3, .int (nI (fi))), (2, .int (nI (Lf))), (0, .ref (r 0)), (1, .int (kv))]) hx hb dM_find_72 hl (by decide) rfl (fun ls hl => ?_)
          refine lv_iload hx hb dM_find_74 (lv_at hl 0 rfl) ?_
          refine lv_if_eq (tgt := 86) hx hb dM_find_76 (by decide) (fun c9 => absurd c9 (by decide)) (fun _ => ?_)
          refine lv_iload_n hx hb dM_find_79 rfl (lv_at hl 3 rfl) ?_
          refine lv_iload hx hb dM_find_80 (lv_at hl 1 rfl) ?_
          refine nr_isub hx hb (a1 := Lf) (b1 := gF b g ev ms false fi) (by omega) dM_find_82 ?_
          refine lv_goto (tgt := 87) hx hb dM_find_83 (by decide) ?_
          refine lv_istore_n (lv' := [(2, .int (nI (Lf - (gF b g ev ms false fi)))), (4, .int (1)), (5, .int (nI (gF b g ev ms false fi))), (3, .int (nI (fi))), (0, .ref (r 0)), (1, .int (kv))]) hx hb dM_find_87 rfl hl (by decide) rfl (fun ls hl => ?_)
          refine lv_iload hx hb dM_find_88 (lv_at hl 1 rfl) ?_
          refine lv_if_eq (tgt := 99) hx hb dM_find_90 (by decide) (fun c9 => absurd c9 (by decide)) (fun _ => ?_)
          refine lv_iload_n hx hb dM_find_93 rfl (lv_at hl 3 rfl) ?_
          refine lv_iconst (v := 1) hx hb dM_find_94 (by decide) ?_
          refine nr_iadd hx hb (a1 := fi) (b1 := 1) dM_find_95 ?_
          refine lv_goto (tgt := 100) hx hb dM_find_96 (by decide) ?_
          refine lv_istore_n (lv' := [(3, .int (nI (fi + 1))), (2, .int (nI (Lf - (gF b g ev ms false fi)))), (4, .int (1)), (5, .int (nI (gF b g ev ms false fi))), (0, .ref (r 0)), (1, .int (kv))]) hx hb dM_find_100 rfl hl (by decide) rfl (fun ls hl => ?_)
          refine lv_goto (tgt := 23) hx hb dM_find_101 (by decide) ?_
          obtain ⟨k1, rfl⟩ : ∃ k1, k = k1 + 1 := ⟨k - 1, by omega⟩
          rw [mSel, if_neg (by omega)] at kN kS
          exact ih k1 (by omega) (fi + 1) _ _ H locs ls (by omega) (by omega) (by omega) (lv_sub hl [2, 0, 1, 4, 5] rfl) hP hD hS kN kS
      · refine lv_aload_n hx hb dM_find_47 rfl (lv_at hl 3 rfl) ?_
        refine lv_iload_n hx hb dM_find_48 rfl (lv_at hl 1 rfl) ?_
        refine lv_iload_n hx hb dM_find_49 rfl (lv_at hl 1 rfl) ?_
        refine lv_iconst (v := 0) hx hb dM_find_50 (by decide) ?_
        refine lv_iconst (v := 0) hx hb dM_find_51 (by decide) ?_
        have hFc := va_free (wc := mw r cI cZ (va_up b 7 (y)) (g)) hD hS hA (List.range 11) rfl
        refine va_calli (va_runV (As := [.int (nI (fi)), .int (nI (fi)), .int (0), .int (0)]) (rest := []) ⟨hx, hb, hml, hown, hbw⟩ (tM_waysFrom l dC dI r cI cZ cG (va_up b 7 (y)) (g) H.size ev ms (fi) (fi) (0) false hev hg1 h0 hm hg4 (by omega) (by omega) (by omega) (by omega)) (cwV 4 hbw (bw_V km_M_74 ki_yM_waysFrom ksel_yM_waysFrom ki_EventPatternsModel kcM_waysFrom) rfl rfl rfl (by decide +kernel) ⟨Nat.le_of_ble_eq_true rfl, Nat.le_of_ble_eq_true rfl⟩) ⟨fun a U g mk q => by obtain ⟨q0, q1, qP, qK, qD⟩ := q; exact ⟨q0, q1, qP, va_K.moved (u := U) (U := U.calling g mk a) (Vm.Alike.refl U.vm) qK, qD⟩, va_recv hK hP (ci := 1) (q0 := 0) rfl rfl, fun U hU hW => ⟨rfl, by rw [hU], by rw [hU]; exact hP, va_K.moved hW.alike hK, hD.weaken (fun _ _ _ _ => trivial)⟩⟩ rfl rfl hl.1 rfl (lv_room (Nat.le_of_ble_eq_true rfl)) dM_find_52 ⟨hcs.1, hcs.2⟩) hS (fun q _ h => hFc q h) hFc (fun r_52 u t H1 locs ht hvm hq hB hz1 hk1 hS => ?_)
        obtain ⟨yz, y3, hyz, hq1, hq⟩ := hq
        rw [mWays hm (by omega) (by omega) (by omega) hyz, gW_c up7 rfl rfl] at hq1
        subst hq1
        obtain rfl := hq
        obtain ⟨hP1, hK1, hD1⟩ := hB
        rw [ht] at hP1
        have hP : va_P (dC, dI) cls2 (mw r cI cZ (va_up b 7 (y3)) (g)) H1 := hP1
        have hD : va_D A (mw r cI cZ (va_up b 7 (y3)) (g)) := hD1.weaken (fun _ _ _ h => hFc _ h)
        generalize H1 = H at hP hS ⊢
        refine lv_goto (tgt := 59) hx hb dM_find_55 (by decide) ?_
        refine W.eq (g2 := F0 m 59 ls [.int (nI (gF b g ev ms false fi))]) (by unfold gF; first | rw [if_pos c_44] | (rw [if_neg (by rw [c_44]; decide)]; rfl)) ?_
        have hgF : gF b g ev ms false fi ≤ 14348907 := gF_le b g ev ms false (by omega)
        refine lv_istore (lv' := [(5, .int (nI (gF b g ev ms false fi))), (4, .int (1)), (3, .int (nI (fi))), (2, .int (nI (Lf))), (0, .ref (r 0)), (1, .int (kv))]) hx hb dM_find_59 hl (by decide) rfl (fun ls hl => ?_)
        refine lv_iload_n hx hb dM_find_61 rfl (lv_at hl 3 rfl) ?_
        refine lv_iload hx hb dM_find_62 (lv_at hl 0 rfl) ?_
        refine nr_icmp_lt (tgt := 71) hx hb (a1 := Lf) (b1 := gF b g ev ms false fi) (by omega) (by omega) dM_find_64 (by decide) (fun c_64 => ?_) (fun c_64 => ?_)
        · refine lv_iconst (v := 0) hx hb dM_find_71 (by decide) ?_
          refine lv_istore (lv' := [(4, .int (0)), (5, .int (nI (gF b g ev ms false fi))), (3, .int (nI (fi))), (2, .int (nI (Lf))), (0, .ref (r 0)), (1, .int (kv))]) hx hb dM_find_72 hl (by decide) rfl (fun ls hl => ?_)
          refine lv_iload hx hb dM_find_74 (lv_at hl 0 rfl) ?_
          refine lv_if_eq (tgt := 86) hx hb dM_find_76 (by decide) (fun _ => ?_) (fun c9 => absurd c9 (by decide))
          refine lv_iload_n hx hb dM_find_86 rfl (lv_at hl 3 rfl) ?_
          refine lv_istore_n (lv' := [(2, .int (nI (Lf))), (4, .int (0)), (5, .int (nI (gF b g ev ms false fi))), (3, .int (nI (fi))), (0, .ref (r 0)), (1, .int (kv))]) hx hb dM_find_87 rfl hl (by decide) rfl (fun ls hl => ?_)
          refine lv_iload hx hb dM_find_88 (lv_at hl 1 rfl) ?_
          refine lv_if_eq (tgt := 99) hx hb dM_find_90 (by decide) (fun _ => ?_) (fun c9 => absurd c9 (by decide))
          refine lv_iload_n hx hb dM_find_99 rfl (lv_at hl 3 rfl) ?_
          refine lv_istore_n (lv' := [(3, .int (nI (fi))), (2, .int (nI (Lf))), (4, .int (0)), (5, .int (nI (gF b g ev ms false fi))), (0, .ref (r 0)), (1, .int (kv))]) hx hb dM_find_100 rfl hl (by decide) rfl (fun ls hl => ?_)
          refine lv_goto (tgt := 23) hx hb dM_find_101 (by decide) ?_
          refine lv_iload hx hb dM_find_23 (lv_at hl 2 rfl) ?_
          refine lv_if_eq (tgt := 104) hx hb dM_find_25 (by decide) (fun _ => ?_) (fun c9 => absurd c9 (by decide))
          obtain ⟨k1, rfl⟩ : ∃ k1, k = k1 + 1 := ⟨k - 1, by omega⟩
          exact kS fi Lf (by rw [mSel, if_pos c_64]) ⟨hfi, by omega, hLf, c_64⟩ _ H locs ls (lv_sub hl [2, 0, 1, 4, 5] rfl) hP hD hS
        · refine lv_iconst (v := 1) hx hb dM_find_67 (by decide) ?_
          refine lv_goto (tgt := 72) hx hb dM_find_68 (by decide) ?_
          refine lv_istore (lv' := [(4, .int (1)), (5, .int (nI (gF b g ev ms false fi))), (3, .int (nI (fi))), (2, .int (nI (Lf))), (0, .ref (r 0)), (1, .int (kv))]) hx hb dM_find_72 hl (by decide) rfl (fun ls hl => ?_)
          refine lv_iload hx hb dM_find_74 (lv_at hl 0 rfl) ?_
          refine lv_if_eq (tgt := 86) hx hb dM_find_76 (by decide) (fun c9 => absurd c9 (by decide)) (fun _ => ?_)
          refine lv_iload_n hx hb dM_find_79 rfl (lv_at hl 3 rfl) ?_
          refine lv_iload hx hb dM_find_80 (lv_at hl 1 rfl) ?_
          refine nr_isub hx hb (a1 := Lf) (b1 := gF b g ev ms false fi) (by omega) dM_find_82 ?_
          refine lv_goto (tgt := 87) hx hb dM_find_83 (by decide) ?_
          refine lv_istore_n (lv' := [(2, .int (nI (Lf - (gF b g ev ms false fi)))), (4, .int (1)), (5, .int (nI (gF b g ev ms false fi))), (3, .int (nI (fi))), (0, .ref (r 0)), (1, .int (kv))]) hx hb dM_find_87 rfl hl (by decide) rfl (fun ls hl => ?_)
          refine lv_iload hx hb dM_find_88 (lv_at hl 1 rfl) ?_
          refine lv_if_eq (tgt := 99) hx hb dM_find_90 (by decide) (fun c9 => absurd c9 (by decide)) (fun _ => ?_)
          refine lv_iload_n hx hb dM_find_93 rfl (lv_at hl 3 rfl) ?_
          refine lv_iconst (v := 1) hx hb dM_find_94 (by decide) ?_
          refine nr_iadd hx hb (a1 := fi) (b1 := 1) dM_find_95 ?_
          refine lv_goto (tgt := 100) hx hb dM_find_96 (by decide) ?_
          refine lv_istore_n (lv' := [(3, .int (nI (fi + 1))), (2, .int (nI (Lf - (gF b g ev ms false fi)))), (4, .int (1)), (5, .int (nI (gF b g ev ms false fi))), (0, .ref (r 0)), (1, .int (kv))]) hx hb dM_find_100 rfl hl (by decide) rfl (fun ls hl => ?_)
          refine lv_goto (tgt := 23) hx hb dM_find_101 (by decide) ?_
          obtain ⟨k1, rfl⟩ : ∃ k1, k = k1 + 1 := ⟨k - 1, by omega⟩
          rw [mSel, if_neg (by omega)] at kN kS
          exact ih k1 (by omega) (fi + 1) _ _ H locs ls (by omega) (by omega) (by omega) (lv_sub hl [2, 0, 1, 4, 5] rfl) hP hD hS kN kS
