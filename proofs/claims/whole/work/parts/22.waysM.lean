/-! THE REFERENCE: waysFrom -/
def mN1 (b : Nat → Nat → Int32) (g : Nat → Int32) (ev fi e1 st : Nat) (nn : Int32) (nx : Nat) (y : Nat → Int32) : Nat → Int32 := if b 6 st = 0 ∨ mFit1 b g nx st e1 fi = false then y else upd y (5 * (nx - (ev - 16)) + st) (y (5 * (nx - (ev - 16)) + st) + nn)
def mN2 (b : Nat → Nat → Int32) (g : Nat → Int32) (ev ms fi e1 st : Nat) (nn : Int32) (nx : Nat) (y : Nat → Int32) : Nat → Int32 := if ms ≤ st + 1 ∨ mFit1 b g nx (st + 1) e1 fi = false then y else upd y (5 * (nx - (ev - 16)) + st + 1) (y (5 * (nx - (ev - 16)) + st + 1) + nn)
def mWN (b : Nat → Nat → Int32) (g : Nat → Int32) (ev ms fi e1 st ed : Nat) (nn : Int32) : Nat → Nat → (Nat → Int32) → (Nat → Int32)
  | 0, _, y => y
  | k + 1, nx, y => if nx < ed ∧ 0 < nn then mWN b g ev ms fi e1 st ed nn k (nx + 1) (mN2 b g ev ms fi e1 st nn nx (mN1 b g ev fi e1 st nn nx y)) else y
theorem mWN_out {b : Nat → Nat → Int32} {g : Nat → Int32} {ev ms fi e1 st ed k nx : Nat} {nn : Int32} {y : Nat → Int32} (h : ¬ (nx < ed ∧ 0 < nn)) : mWN b g ev ms fi e1 st ed nn (k + 1) nx y = y := by rw [mWN, if_neg h]
theorem mWN_in {b : Nat → Nat → Int32} {g : Nat → Int32} {ev ms fi e1 st ed k nx : Nat} {nn : Int32} {y y2 : Nat → Int32} (hk : 1 ≤ k) (h1 : nx < ed) (h2 : 0 < nn) (h3 : mN2 b g ev ms fi e1 st nn nx (mN1 b g ev fi e1 st nn nx y) = y2) : mWN b g ev ms fi e1 st ed nn (k + 1) nx y = mWN b g ev ms fi e1 st ed nn (k - 1 + 1) (nx + 1) y2 := by
  rw [mWN, if_pos ⟨h1, h2⟩, h3, show k - 1 + 1 = k by omega]
def mAcc (ev ms e1 st : Nat) (lt : Bool) (acc nn : Int32) : Int32 := if st + 1 = ms ∧ (lt = false ∨ e1 + 1 = ev) then acc + nn else acc
def mWS (b : Nat → Nat → Int32) (g : Nat → Int32) (ev ms fi e1 ed : Nat) (lt : Bool) : Nat → Nat → Int32 → (Nat → Int32) → Int32 × (Nat → Int32)
  | 0, _, acc, y => (acc, y)
  | k + 1, st, acc, y => if st < ms then mWS b g ev ms fi e1 ed lt k (st + 1) (mAcc ev ms e1 st lt acc (y (5 * (e1 - (ev - 16)) + st))) (mWN b g ev ms fi e1 st ed (y (5 * (e1 - (ev - 16)) + st)) (ed + 1) (e1 + 1) y) else (acc, y)
theorem mWS_out {b : Nat → Nat → Int32} {g : Nat → Int32} {ev ms fi e1 ed k st : Nat} {lt : Bool} {acc : Int32} {y : Nat → Int32} (h : ms ≤ st) : mWS b g ev ms fi e1 ed lt (k + 1) st acc y = (acc, y) := by rw [mWS, if_neg (by omega)]
theorem mWS_in {b : Nat → Nat → Int32} {g : Nat → Int32} {ev ms fi e1 ed k st : Nat} {lt : Bool} {acc : Int32} {y : Nat → Int32} (hk : 1 ≤ k) (h : st < ms) : mWS b g ev ms fi e1 ed lt (k + 1) st acc y = mWS b g ev ms fi e1 ed lt (k - 1 + 1) (st + 1) (mAcc ev ms e1 st lt acc (y (5 * (e1 - (ev - 16)) + st))) (mWN b g ev ms fi e1 st ed (y (5 * (e1 - (ev - 16)) + st)) (ed + 1) (e1 + 1) y) := by
  rw [mWS, if_pos h, show k - 1 + 1 = k by omega]
def mEnd (g : Nat → Int32) (ev e1 : Nat) : Nat := if g 2 = 0 ∧ e1 + 2 < ev then e1 + 2 else ev
def mWE (b : Nat → Nat → Int32) (g : Nat → Int32) (ev ms fi : Nat) (lt : Bool) : Nat → Nat → Int32 → (Nat → Int32) → Int32 × (Nat → Int32)
  | 0, _, acc, y => (acc, y)
  | k + 1, e1, acc, y => if e1 < ev then mWE b g ev ms fi lt k (e1 + 1) (mWS b g ev ms fi e1 (mEnd g ev e1) lt (ms + 1) 0 acc y).1 (mWS b g ev ms fi e1 (mEnd g ev e1) lt (ms + 1) 0 acc y).2 else (acc, y)
theorem mWE_out {b : Nat → Nat → Int32} {g : Nat → Int32} {ev ms fi k e1 : Nat} {lt : Bool} {acc : Int32} {y : Nat → Int32} (h : ev ≤ e1) : mWE b g ev ms fi lt (k + 1) e1 acc y = (acc, y) := by rw [mWE, if_neg (by omega)]
theorem mWE_in {b : Nat → Nat → Int32} {g : Nat → Int32} {ev ms fi k e1 ed : Nat} {lt : Bool} {acc : Int32} {y : Nat → Int32} (hk : 1 ≤ k) (h : e1 < ev) (hed : mEnd g ev e1 = ed) : mWE b g ev ms fi lt (k + 1) e1 acc y = mWE b g ev ms fi lt (k - 1 + 1) (e1 + 1) (mWS b g ev ms fi e1 ed lt (ms + 1) 0 acc y).1 (mWS b g ev ms fi e1 ed lt (ms + 1) 0 acc y).2 := by
  rw [mWE, if_pos h, hed, show k - 1 + 1 = k by omega]
set_option maxHeartbeats 4000000 in
set_option maxRecDepth 100000 in
theorem lM_N (l : Launch) (dC : Nat → ClassId) (dI : Nat → Nat → Nat) (r : Nat → Nat) (cI cZ cG : ClassId) (b : Nat → Nat → Int32) (g : Nat → Int32) {p : Program} {e : Env} {s : State} {m : MethodId} {args : Array Value} {below : List Frame} {meth : Method} {c : Code} {Q : State → Prop} {A : Nat → Prop} (ev ms fi : Nat) (e0 s0 : Int32) (lt : Bool) (hev : ev ≤ 400) (hg1 : g 1 = nI ev) (h0 : 1 ≤ ms) (hm : ms ≤ 5) (hg4 : g 4 = nI ms) (hfi : fi < 400) {cells slots : Nat} (hcs : cells ≤ 0 ∧ slots ≤ 0) (hx : p.tables.exec = Jvm.exec) (hb : c.code = cM_waysFrom) (hml : c.maxLocals = 13) (hown : s.vm.findClass "EventPatternsModel" = some m.cls) (hbw : ∀ w ∈ bw, w.before args s = true) (hK : va_K (dC, dI) cls2 (xt cI cZ cG) s) (e1 st ed : Nat) (acc nn : Int32) (he : e1 < ev) (he2 : ev - 16 ≤ e1) (hst : st < ms) (hed : ed ≤ ev) :
    ∀ (k nx : Nat) (y : Nat → Int32) (H : Heap) (locs : List Loc) (ls : Array Slot), ed ≤ nx + k → e1 < nx → nx ≤ ev → lv_has ls 13 [(11, .int (nI (nx))), (6, .int (acc)), (7, .int (nI (e1))), (8, .int (nI (ed))), (9, .int (nI (st))), (10, .int (nn)), (0, .ref (r 0)), (1, .int (nI (fi))), (2, .int (e0)), (3, .int (s0)), (4, .int (bI (lt))), (5, .int (nI (ev - 16)))] → va_P (dC, dI) cls2 (mw r cI cZ (va_up b 7 (y)) g) H → va_D A (mw r cI cZ (va_up b 7 (y)) g) → va_S A s.heap H locs →
      (∀ (H : Heap) (locs : List Loc) (ls : Array Slot), lv_has ls 13 [(6, .int (acc)), (7, .int (nI (e1))), (8, .int (nI (ed))), (9, .int (nI (st))), (10, .int (nn)), (0, .ref (r 0)), (1, .int (nI (fi))), (2, .int (e0)), (3, .int (s0)), (4, .int (bI (lt))), (5, .int (nI (ev - 16)))] → va_P (dC, dI) cls2 (mw r cI cZ (va_up b 7 (mWN b g ev ms fi e1 st ed nn (k + 1) nx y)) g) H → va_D A (mw r cI cZ (va_up b 7 (mWN b g ev ms fi e1 st ed nn (k + 1) nx y)) g) → va_S A s.heap H locs → W p l e ({ frames := 1, cells := 0, slots := 0, locals := 25 }) s m args below meth c H locs cells slots Q (F0 m 274 ls [])) → W p l e ({ frames := 1, cells := 0, slots := 0, locals := 25 }) s m args below meth c H locs cells slots Q (F0 m 164 ls []) := by
  intro k
  induction k using Nat.strongRecOn with
  | ind k ih =>
    intro nx y H locs ls hk hn1 hn2 hl hP hD hS kk
    refine lv_iload hx hb dM_waysFrom_164 (lv_at hl 0 rfl) ?_
    refine lv_iload hx hb dM_waysFrom_166 (lv_at hl 3 rfl) ?_
    refine nr_icmp_ge (tgt := 274) hx hb (a1 := nx) (b1 := ed) (by omega) (by omega) dM_waysFrom_168 (by decide) (fun c_168 => ?_) (fun c_168 => ?_)
    · rw [mWN_out (by first | (rintro ⟨u1, u2⟩; omega) | (rintro ⟨u1, u2⟩; exact absurd c_173 (Int32.not_le.mpr u2)))] at kk
      exact kk H locs ls (lv_sub hl [1, 2, 3, 4, 5, 6, 7, 8, 9, 10, 11] rfl) hP hD hS
    · refine lv_iload hx hb dM_waysFrom_171 (lv_at hl 5 rfl) ?_
      refine lv_if_le (tgt := 274) hx hb dM_waysFrom_173 (by decide) (fun c_173 => ?_) (fun c_173 => ?_)
      · rw [mWN_out (by first | (rintro ⟨u1, u2⟩; omega) | (rintro ⟨u1, u2⟩; exact absurd c_173 (Int32.not_le.mpr u2)))] at kk
        exact kk H locs ls (lv_sub hl [1, 2, 3, 4, 5, 6, 7, 8, 9, 10, 11] rfl) hP hD hS
      · refine lv_iconst (v := 5) hx hb dM_waysFrom_176 (by decide) ?_
        refine lv_iload hx hb dM_waysFrom_177 (lv_at hl 0 rfl) ?_
        refine lv_iload hx hb dM_waysFrom_179 (lv_at hl 11 rfl) ?_
        refine nr_isub hx hb (a1 := nx) (b1 := ev - 16) (by omega) dM_waysFrom_181 ?_
        refine nr_imul hx hb (a1 := 5) (b1 := nx - (ev - 16)) dM_waysFrom_182 ?_
        refine lv_istore (lv' := [(12, .int (nI (5 * (nx - (ev - 16))))), (11, .int (nI (nx))), (6, .int (acc)), (7, .int (nI (e1))), (8, .int (nI (ed))), (9, .int (nI (st))), (10, .int (nn)), (0, .ref (r 0)), (1, .int (nI (fi))), (2, .int (e0)), (3, .int (s0)), (4, .int (bI (lt))), (5, .int (nI (ev - 16)))]) hx hb dM_waysFrom_183 hl (by decide) rfl (fun ls hl => ?_)
        refine lv_aload_n hx hb dM_waysFrom_185 rfl (lv_at hl 7 rfl) ?_
        refine va_get (D := (dC, dI)) (ci := 1) (v := .ref (r 7)) (C := "EventPatternsModel") (T := TM) (N := 16) hx hb hbw inM hown hK hP 0 rfl rfl 11 (by decide) (hbw _ kf_M_28) (fun _ h9 => h9) rfl dM_waysFrom_186 ?_
        refine lv_iload hx hb dM_waysFrom_189 (lv_at hl 5 rfl) ?_
        refine nr_zald (f := b 6) hx hb hK hP 7 1 rfl rfl (j := st) (by omega) (by decide) dM_waysFrom_191 ?_
        refine lv_if_eq (tgt := 224) hx hb dM_waysFrom_192 (by decide) (fun c_192 => ?_) (fun c_192 => ?_)
        · refine lv_iload hx hb dM_waysFrom_224 (lv_at hl 5 rfl) ?_
          refine lv_iconst (v := 1) hx hb dM_waysFrom_226 (by decide) ?_
          refine nr_iadd hx hb (a1 := st) (b1 := 1) dM_waysFrom_227 ?_
          refine lv_aload_n hx hb dM_waysFrom_228 rfl (lv_at hl 7 rfl) ?_
          refine va_get (D := (dC, dI)) (ci := 1) (v := .int (nI (ms))) (C := "EventPatternsModel") (T := TM) (N := 16) hx hb hbw inM hown hK hP 0 rfl rfl 7 (by decide) (hbw _ kf_M_63) (fun _ h9 => h9) (congrArg (fun z => some (Value.int z)) (hg4)) dM_waysFrom_229 ?_
          refine nr_icmp_ge (tgt := 268) hx hb (a1 := st + 1) (b1 := ms) (by omega) (by omega) dM_waysFrom_232 (by decide) (fun c_232 => ?_) (fun c_232 => ?_)
          · refine lv_iinc (v := nI (nx + 1)) (lv' := [(11, .int (nI (nx + 1))), (12, .int (nI (5 * (nx - (ev - 16))))), (6, .int (acc)), (7, .int (nI (e1))), (8, .int (nI (ed))), (9, .int (nI (st))), (10, .int (nn)), (0, .ref (r 0)), (1, .int (nI (fi))), (2, .int (e0)), (3, .int (s0)), (4, .int (bI (lt))), (5, .int (nI (ev - 16)))]) hx hb dM_waysFrom_268 hl (k := 1) rfl (nI_1 _) (by decide) rfl (fun ls hl => ?_)
            refine lv_goto (tgt := 164) hx hb dM_waysFrom_271 (by decide) ?_
            have hy : mN2 b g ev ms fi e1 st nn nx (mN1 b g ev fi e1 st nn nx y) = y := by
              first | rw [mN1, if_pos (Or.inl c_192)] | rw [mN1, if_pos (Or.inr c_206)] | rw [mN1, if_neg (fun h => h.elim c_192 (fun h => by rw [c_206] at h; cases h))]
              first | rw [mN2, if_pos (Or.inl (by omega))] | rw [mN2, if_pos (Or.inr c_248)] | rw [mN2, if_neg (fun h => h.elim (fun h => by omega) (fun h => by rw [c_248] at h; cases h))]
            exact ih (k - 1) (by omega) (nx + 1) _ _ _ ls (by omega) (by omega) (by omega) (lv_sub hl [0, 2, 3, 4, 5, 6, 7, 8, 9, 10, 11, 12] rfl) hP hD hS (fun H locs ls hl hP hD hS => by rw [mWN_in (by omega) c_168 (Int32.not_le.mp c_173) hy] at kk; exact kk H locs ls hl hP hD hS)
          · refine lv_aload_n hx hb dM_waysFrom_235 rfl (lv_at hl 7 rfl) ?_
            refine lv_iload hx hb dM_waysFrom_236 (lv_at hl 1 rfl) ?_
            refine lv_iload hx hb dM_waysFrom_238 (lv_at hl 5 rfl) ?_
            refine lv_iconst (v := 1) hx hb dM_waysFrom_240 (by decide) ?_
            refine nr_iadd hx hb (a1 := st) (b1 := 1) dM_waysFrom_241 ?_
            refine lv_iload hx hb dM_waysFrom_242 (lv_at hl 3 rfl) ?_
            refine lv_iload_n hx hb dM_waysFrom_244 rfl (lv_at hl 8 rfl) ?_
            refine vp_callSi (W.runV (As := [.int (nI (nx)), .int (nI (st + 1)), .int (nI (e1)), .int (nI (fi))]) (rest := []) ⟨hx, hb, hml, hown, hbw⟩ (tM_fits1 l dC dI r cI cZ cG (va_up b 7 (y)) (g) (nx) (st + 1) (e1) (fi) (by omega) (by omega) (by omega) (by omega)) (cwV 4 hbw (bw_V km_M_70 ki_yM_fits ksel_yM_fits ki_EventPatternsModel kcM_fits) rfl rfl rfl (by decide +kernel) ⟨Nat.le_of_ble_eq_true rfl, Nat.le_of_ble_eq_true rfl⟩) ⟨fun a U g mk q => by obtain ⟨q0, qP, qK⟩ := q; exact ⟨q0, qP, va_K.moved (u := U) (U := U.calling g mk a) (Vm.Alike.refl U.vm) qK⟩, va_recv hK hP (ci := 1) (q0 := 0) rfl rfl, fun U hU hW => ⟨rfl, by rw [hU]; exact hP, va_K.moved hW.alike hK⟩⟩ rfl rfl hl.1 rfl (lv_room (Nat.le_of_ble_eq_true rfl)) dM_waysFrom_245 ⟨hcs.1, hcs.2⟩) (fun r_245 hq => ?_)
            have hq : r_245 = bI (mFit1 b g (nx) (st + 1) (e1) (fi)) := hq
            subst hq
            refine nr_ifb_eq (tgt := 268) hx hb (b := (mFit1 b g (nx) (st + 1) (e1) (fi))) dM_waysFrom_248 (by decide) (fun c_248 => ?_) (fun c_248 => ?_)
            · refine lv_iinc (v := nI (nx + 1)) (lv' := [(11, .int (nI (nx + 1))), (12, .int (nI (5 * (nx - (ev - 16))))), (6, .int (acc)), (7, .int (nI (e1))), (8, .int (nI (ed))), (9, .int (nI (st))), (10, .int (nn)), (0, .ref (r 0)), (1, .int (nI (fi))), (2, .int (e0)), (3, .int (s0)), (4, .int (bI (lt))), (5, .int (nI (ev - 16)))]) hx hb dM_waysFrom_268 hl (k := 1) rfl (nI_1 _) (by decide) rfl (fun ls hl => ?_)
              refine lv_goto (tgt := 164) hx hb dM_waysFrom_271 (by decide) ?_
              have hy : mN2 b g ev ms fi e1 st nn nx (mN1 b g ev fi e1 st nn nx y) = y := by
                first | rw [mN1, if_pos (Or.inl c_192)] | rw [mN1, if_pos (Or.inr c_206)] | rw [mN1, if_neg (fun h => h.elim c_192 (fun h => by rw [c_206] at h; cases h))]
                first | rw [mN2, if_pos (Or.inl (by omega))] | rw [mN2, if_pos (Or.inr c_248)] | rw [mN2, if_neg (fun h => h.elim (fun h => by omega) (fun h => by rw [c_248] at h; cases h))]
              exact ih (k - 1) (by omega) (nx + 1) _ _ _ ls (by omega) (by omega) (by omega) (lv_sub hl [0, 2, 3, 4, 5, 6, 7, 8, 9, 10, 11, 12] rfl) hP hD hS (fun H locs ls hl hP hD hS => by rw [mWN_in (by omega) c_168 (Int32.not_le.mp c_173) hy] at kk; exact kk H locs ls hl hP hD hS)
            · refine lv_aload_n hx hb dM_waysFrom_251 rfl (lv_at hl 7 rfl) ?_
              refine va_get (D := (dC, dI)) (ci := 1) (v := .ref (r 8)) (C := "EventPatternsModel") (T := TM) (N := 16) hx hb hbw inM hown hK hP 0 rfl rfl 12 (by decide) (hbw _ kf_M_32) (fun _ h9 => h9) rfl dM_waysFrom_252 ?_
              refine lv_iload hx hb dM_waysFrom_255 (lv_at hl 0 rfl) ?_
              refine lv_iload hx hb dM_waysFrom_257 (lv_at hl 5 rfl) ?_
              refine nr_iadd hx hb (a1 := 5 * (nx - (ev - 16))) (b1 := st) dM_waysFrom_259 ?_
              refine lv_iconst (v := 1) hx hb dM_waysFrom_260 (by decide) ?_
              refine nr_iadd hx hb (a1 := (5 * (nx - (ev - 16))) + st) (b1 := 1) dM_waysFrom_261 ?_
              refine lv_dup2_11 hx hb dM_waysFrom_262 rfl rfl ?_
              refine nr_iald (f := y) hx hb hK hP 8 0 rfl rfl (j := ((5 * (nx - (ev - 16))) + st) + 1) (by omega) (by decide) dM_waysFrom_263 ?_
              refine lv_iload hx hb dM_waysFrom_264 (lv_at hl 6 rfl) ?_
              refine lv_iadd hx hb dM_waysFrom_266 ?_
              refine nr_iast (f := y) hx hb hK hP hD hS 8 0 rfl rfl (j := ((5 * (nx - (ev - 16))) + st) + 1) (by omega) (by decide) dM_waysFrom_267 (fun H locs hP hD hS => ?_)
              have hP : va_P (dC, dI) cls2 (mw r cI cZ (va_up b 7 (upd (y) (((5 * (nx - (ev - 16))) + st) + 1) (((y) (((5 * (nx - (ev - 16))) + st) + 1)) + (nn)))) (g)) H := hP
              have hD : va_D A (mw r cI cZ (va_up b 7 (upd (y) (((5 * (nx - (ev - 16))) + st) + 1) (((y) (((5 * (nx - (ev - 16))) + st) + 1)) + (nn)))) (g)) := hD
              refine lv_iinc (v := nI (nx + 1)) (lv' := [(11, .int (nI (nx + 1))), (12, .int (nI (5 * (nx - (ev - 16))))), (6, .int (acc)), (7, .int (nI (e1))), (8, .int (nI (ed))), (9, .int (nI (st))), (10, .int (nn)), (0, .ref (r 0)), (1, .int (nI (fi))), (2, .int (e0)), (3, .int (s0)), (4, .int (bI (lt))), (5, .int (nI (ev - 16)))]) hx hb dM_waysFrom_268 hl (k := 1) rfl (nI_1 _) (by decide) rfl (fun ls hl => ?_)
              refine lv_goto (tgt := 164) hx hb dM_waysFrom_271 (by decide) ?_
              have hy : mN2 b g ev ms fi e1 st nn nx (mN1 b g ev fi e1 st nn nx y) = upd (y) (((5 * (nx - (ev - 16))) + st) + 1) (((y) (((5 * (nx - (ev - 16))) + st) + 1)) + (nn)) := by
                first | rw [mN1, if_pos (Or.inl c_192)] | rw [mN1, if_pos (Or.inr c_206)] | rw [mN1, if_neg (fun h => h.elim c_192 (fun h => by rw [c_206] at h; cases h))]
                first | rw [mN2, if_pos (Or.inl (by omega))] | rw [mN2, if_pos (Or.inr c_248)] | rw [mN2, if_neg (fun h => h.elim (fun h => by omega) (fun h => by rw [c_248] at h; cases h))]
              exact ih (k - 1) (by omega) (nx + 1) _ _ _ ls (by omega) (by omega) (by omega) (lv_sub hl [0, 2, 3, 4, 5, 6, 7, 8, 9, 10, 11, 12] rfl) hP hD hS (fun H locs ls hl hP hD hS => by rw [mWN_in (by omega) c_168 (Int32.not_le.mp c_173) hy] at kk; exact kk H locs ls hl hP hD hS)
        · refine lv_aload_n hx hb dM_waysFrom_195 rfl (lv_at hl 7 rfl) ?_
          refine lv_iload hx hb dM_waysFrom_196 (lv_at hl 1 rfl) ?_
          refine lv_iload hx hb dM_waysFrom_198 (lv_at hl 5 rfl) ?_
          refine lv_iload hx hb dM_waysFrom_200 (lv_at hl 3 rfl) ?_
          refine lv_iload_n hx hb dM_waysFrom_202 rfl (lv_at hl 8 rfl) ?_
          refine vp_callSi (W.runV (As := [.int (nI (nx)), .int (nI (st)), .int (nI (e1)), .int (nI (fi))]) (rest := []) ⟨hx, hb, hml, hown, hbw⟩ (tM_fits1 l dC dI r cI cZ cG (va_up b 7 (y)) (g) (nx) (st) (e1) (fi) (by omega) (by omega) (by omega) (by omega)) (cwV 4 hbw (bw_V km_M_70 ki_yM_fits ksel_yM_fits ki_EventPatternsModel kcM_fits) rfl rfl rfl (by decide +kernel) ⟨Nat.le_of_ble_eq_true rfl, Nat.le_of_ble_eq_true rfl⟩) ⟨fun a U g mk q => by obtain ⟨q0, qP, qK⟩ := q; exact ⟨q0, qP, va_K.moved (u := U) (U := U.calling g mk a) (Vm.Alike.refl U.vm) qK⟩, va_recv hK hP (ci := 1) (q0 := 0) rfl rfl, fun U hU hW => ⟨rfl, by rw [hU]; exact hP, va_K.moved hW.alike hK⟩⟩ rfl rfl hl.1 rfl (lv_room (Nat.le_of_ble_eq_true rfl)) dM_waysFrom_203 ⟨hcs.1, hcs.2⟩) (fun r_203 hq => ?_)
          have hq : r_203 = bI (mFit1 b g (nx) (st) (e1) (fi)) := hq
          subst hq
          refine nr_ifb_eq (tgt := 224) hx hb (b := (mFit1 b g (nx) (st) (e1) (fi))) dM_waysFrom_206 (by decide) (fun c_206 => ?_) (fun c_206 => ?_)
          · refine lv_iload hx hb dM_waysFrom_224 (lv_at hl 5 rfl) ?_
            refine lv_iconst (v := 1) hx hb dM_waysFrom_226 (by decide) ?_
            refine nr_iadd hx hb (a1 := st) (b1 := 1) dM_waysFrom_227 ?_
            refine lv_aload_n hx hb dM_waysFrom_228 rfl (lv_at hl 7 rfl) ?_
            refine va_get (D := (dC, dI)) (ci := 1) (v := .int (nI (ms))) (C := "EventPatternsModel") (T := TM) (N := 16) hx hb hbw inM hown hK hP 0 rfl rfl 7 (by decide) (hbw _ kf_M_63) (fun _ h9 => h9) (congrArg (fun z => some (Value.int z)) (hg4)) dM_waysFrom_229 ?_
            refine nr_icmp_ge (tgt := 268) hx hb (a1 := st + 1) (b1 := ms) (by omega) (by omega) dM_waysFrom_232 (by decide) (fun c_232 => ?_) (fun c_232 => ?_)
            · refine lv_iinc (v := nI (nx + 1)) (lv' := [(11, .int (nI (nx + 1))), (12, .int (nI (5 * (nx - (ev - 16))))), (6, .int (acc)), (7, .int (nI (e1))), (8, .int (nI (ed))), (9, .int (nI (st))), (10, .int (nn)), (0, .ref (r 0)), (1, .int (nI (fi))), (2, .int (e0)), (3, .int (s0)), (4, .int (bI (lt))), (5, .int (nI (ev - 16)))]) hx hb dM_waysFrom_268 hl (k := 1) rfl (nI_1 _) (by decide) rfl (fun ls hl => ?_)
              refine lv_goto (tgt := 164) hx hb dM_waysFrom_271 (by decide) ?_
              have hy : mN2 b g ev ms fi e1 st nn nx (mN1 b g ev fi e1 st nn nx y) = y := by
                first | rw [mN1, if_pos (Or.inl c_192)] | rw [mN1, if_pos (Or.inr c_206)] | rw [mN1, if_neg (fun h => h.elim c_192 (fun h => by rw [c_206] at h; cases h))]
                first | rw [mN2, if_pos (Or.inl (by omega))] | rw [mN2, if_pos (Or.inr c_248)] | rw [mN2, if_neg (fun h => h.elim (fun h => by omega) (fun h => by rw [c_248] at h; cases h))]
              exact ih (k - 1) (by omega) (nx + 1) _ _ _ ls (by omega) (by omega) (by omega) (lv_sub hl [0, 2, 3, 4, 5, 6, 7, 8, 9, 10, 11, 12] rfl) hP hD hS (fun H locs ls hl hP hD hS => by rw [mWN_in (by omega) c_168 (Int32.not_le.mp c_173) hy] at kk; exact kk H locs ls hl hP hD hS)
            · refine lv_aload_n hx hb dM_waysFrom_235 rfl (lv_at hl 7 rfl) ?_
              refine lv_iload hx hb dM_waysFrom_236 (lv_at hl 1 rfl) ?_
              refine lv_iload hx hb dM_waysFrom_238 (lv_at hl 5 rfl) ?_
              refine lv_iconst (v := 1) hx hb dM_waysFrom_240 (by decide) ?_
              refine nr_iadd hx hb (a1 := st) (b1 := 1) dM_waysFrom_241 ?_
              refine lv_iload hx hb dM_waysFrom_242 (lv_at hl 3 rfl) ?_
              refine lv_iload_n hx hb dM_waysFrom_244 rfl (lv_at hl 8 rfl) ?_
              refine vp_callSi (W.runV (As := [.int (nI (nx)), .int (nI (st + 1)), .int (nI (e1)), .int (nI (fi))]) (rest := []) ⟨hx, hb, hml, hown, hbw⟩ (tM_fits1 l dC dI r cI cZ cG (va_up b 7 (y)) (g) (nx) (st + 1) (e1) (fi) (by omega) (by omega) (by omega) (by omega)) (cwV 4 hbw (bw_V km_M_70 ki_yM_fits ksel_yM_fits ki_EventPatternsModel kcM_fits) rfl rfl rfl (by decide +kernel) ⟨Nat.le_of_ble_eq_true rfl, Nat.le_of_ble_eq_true rfl⟩) ⟨fun a U g mk q => by obtain ⟨q0, qP, qK⟩ := q; exact ⟨q0, qP, va_K.moved (u := U) (U := U.calling g mk a) (Vm.Alike.refl U.vm) qK⟩, va_recv hK hP (ci := 1) (q0 := 0) rfl rfl, fun U hU hW => ⟨rfl, by rw [hU]; exact hP, va_K.moved hW.alike hK⟩⟩ rfl rfl hl.1 rfl (lv_room (Nat.le_of_ble_eq_true rfl)) dM_waysFrom_245 ⟨hcs.1, hcs.2⟩) (fun r_245 hq => ?_)
              have hq : r_245 = bI (mFit1 b g (nx) (st + 1) (e1) (fi)) := hq
              subst hq
              refine nr_ifb_eq (tgt := 268) hx hb (b := (mFit1 b g (nx) (st + 1) (e1) (fi))) dM_waysFrom_248 (by decide) (fun c_248 => ?_) (fun c_248 => ?_)
              · refine lv_iinc (v := nI (nx + 1)) (lv' := [(11, .int (nI (nx + 1))), (12, .int (nI (5 * (nx - (ev - 16))))), (6, .int (acc)), (7, .int (nI (e1))), (8, .int (nI (ed))), (9, .int (nI (st))), (10, .int (nn)), (0, .ref (r 0)), (1, .int (nI (fi))), (2, .int (e0)), (3, .int (s0)), (4, .int (bI (lt))), (5, .int (nI (ev - 16)))]) hx hb dM_waysFrom_268 hl (k := 1) rfl (nI_1 _) (by decide) rfl (fun ls hl => ?_)
                refine lv_goto (tgt := 164) hx hb dM_waysFrom_271 (by decide) ?_
                have hy : mN2 b g ev ms fi e1 st nn nx (mN1 b g ev fi e1 st nn nx y) = y := by
                  first | rw [mN1, if_pos (Or.inl c_192)] | rw [mN1, if_pos (Or.inr c_206)] | rw [mN1, if_neg (fun h => h.elim c_192 (fun h => by rw [c_206] at h; cases h))]
                  first | rw [mN2, if_pos (Or.inl (by omega))] | rw [mN2, if_pos (Or.inr c_248)] | rw [mN2, if_neg (fun h => h.elim (fun h => by omega) (fun h => by rw [c_248] at h; cases h))]
                exact ih (k - 1) (by omega) (nx + 1) _ _ _ ls (by omega) (by omega) (by omega) (lv_sub hl [0, 2, 3, 4, 5, 6, 7, 8, 9, 10, 11, 12] rfl) hP hD hS (fun H locs ls hl hP hD hS => by rw [mWN_in (by omega) c_168 (Int32.not_le.mp c_173) hy] at kk; exact kk H locs ls hl hP hD hS)
              · refine lv_aload_n hx hb dM_waysFrom_251 rfl (lv_at hl 7 rfl) ?_
                refine va_get (D := (dC, dI)) (ci := 1) (v := .ref (r 8)) (C := "EventPatternsModel") (T := TM) (N := 16) hx hb hbw inM hown hK hP 0 rfl rfl 12 (by decide) (hbw _ kf_M_32) (fun _ h9 => h9) rfl dM_waysFrom_252 ?_
                refine lv_iload hx hb dM_waysFrom_255 (lv_at hl 0 rfl) ?_
                refine lv_iload hx hb dM_waysFrom_257 (lv_at hl 5 rfl) ?_
                refine nr_iadd hx hb (a1 := 5 * (nx - (ev - 16))) (b1 := st) dM_waysFrom_259 ?_
                refine lv_iconst (v := 1) hx hb dM_waysFrom_260 (by decide) ?_
                refine nr_iadd hx hb (a1 := (5 * (nx - (ev - 16))) + st) (b1 := 1) dM_waysFrom_261 ?_
                refine lv_dup2_11 hx hb dM_waysFrom_262 rfl rfl ?_
                refine nr_iald (f := y) hx hb hK hP 8 0 rfl rfl (j := ((5 * (nx - (ev - 16))) + st) + 1) (by omega) (by decide) dM_waysFrom_263 ?_
                refine lv_iload hx hb dM_waysFrom_264 (lv_at hl 6 rfl) ?_
                refine lv_iadd hx hb dM_waysFrom_266 ?_
                refine nr_iast (f := y) hx hb hK hP hD hS 8 0 rfl rfl (j := ((5 * (nx - (ev - 16))) + st) + 1) (by omega) (by decide) dM_waysFrom_267 (fun H locs hP hD hS => ?_)
                have hP : va_P (dC, dI) cls2 (mw r cI cZ (va_up b 7 (upd (y) (((5 * (nx - (ev - 16))) + st) + 1) (((y) (((5 * (nx - (ev - 16))) + st) + 1)) + (nn)))) (g)) H := hP
                have hD : va_D A (mw r cI cZ (va_up b 7 (upd (y) (((5 * (nx - (ev - 16))) + st) + 1) (((y) (((5 * (nx - (ev - 16))) + st) + 1)) + (nn)))) (g)) := hD
                refine lv_iinc (v := nI (nx + 1)) (lv' := [(11, .int (nI (nx + 1))), (12, .int (nI (5 * (nx - (ev - 16))))), (6, .int (acc)), (7, .int (nI (e1))), (8, .int (nI (ed))), (9, .int (nI (st))), (10, .int (nn)), (0, .ref (r 0)), (1, .int (nI (fi))), (2, .int (e0)), (3, .int (s0)), (4, .int (bI (lt))), (5, .int (nI (ev - 16)))]) hx hb dM_waysFrom_268 hl (k := 1) rfl (nI_1 _) (by decide) rfl (fun ls hl => ?_)
                refine lv_goto (tgt := 164) hx hb dM_waysFrom_271 (by decide) ?_
                have hy : mN2 b g ev ms fi e1 st nn nx (mN1 b g ev fi e1 st nn nx y) = upd (y) (((5 * (nx - (ev - 16))) + st) + 1) (((y) (((5 * (nx - (ev - 16))) + st) + 1)) + (nn)) := by
                  first | rw [mN1, if_pos (Or.inl c_192)] | rw [mN1, if_pos (Or.inr c_206)] | rw [mN1, if_neg (fun h => h.elim c_192 (fun h => by rw [c_206] at h; cases h))]
                  first | rw [mN2, if_pos (Or.inl (by omega))] | rw [mN2, if_pos (Or.inr c_248)] | rw [mN2, if_neg (fun h => h.elim (fun h => by omega) (fun h => by rw [c_248] at h; cases h))]
                exact ih (k - 1) (by omega) (nx + 1) _ _ _ ls (by omega) (by omega) (by omega) (lv_sub hl [0, 2, 3, 4, 5, 6, 7, 8, 9, 10, 11, 12] rfl) hP hD hS (fun H locs ls hl hP hD hS => by rw [mWN_in (by omega) c_168 (Int32.not_le.mp c_173) hy] at kk; exact kk H locs ls hl hP hD hS)
          · refine lv_aload_n hx hb dM_waysFrom_209 rfl (lv_at hl 7 rfl) ?_
            refine va_get (D := (dC, dI)) (ci := 1) (v := .ref (r 8)) (C := "EventPatternsModel") (T := TM) (N := 16) hx hb hbw inM hown hK hP 0 rfl rfl 12 (by decide) (hbw _ kf_M_32) (fun _ h9 => h9) rfl dM_waysFrom_210 ?_
            refine lv_iload hx hb dM_waysFrom_213 (lv_at hl 0 rfl) ?_
            refine lv_iload hx hb dM_waysFrom_215 (lv_at hl 5 rfl) ?_
            refine nr_iadd hx hb (a1 := 5 * (nx - (ev - 16))) (b1 := st) dM_waysFrom_217 ?_
            refine lv_dup2_11 hx hb dM_waysFrom_218 rfl rfl ?_
            refine nr_iald (f := y) hx hb hK hP 8 0 rfl rfl (j := (5 * (nx - (ev - 16))) + st) (by omega) (by decide) dM_waysFrom_219 ?_
            refine lv_iload hx hb dM_waysFrom_220 (lv_at hl 6 rfl) ?_
            refine lv_iadd hx hb dM_waysFrom_222 ?_
            refine nr_iast (f := y) hx hb hK hP hD hS 8 0 rfl rfl (j := (5 * (nx - (ev - 16))) + st) (by omega) (by decide) dM_waysFrom_223 (fun H locs hP hD hS => ?_)
            have hP : va_P (dC, dI) cls2 (mw r cI cZ (va_up b 7 (upd (y) ((5 * (nx - (ev - 16))) + st) (((y) ((5 * (nx - (ev - 16))) + st)) + (nn)))) (g)) H := hP
            have hD : va_D A (mw r cI cZ (va_up b 7 (upd (y) ((5 * (nx - (ev - 16))) + st) (((y) ((5 * (nx - (ev - 16))) + st)) + (nn)))) (g)) := hD
            refine lv_iload hx hb dM_waysFrom_224 (lv_at hl 5 rfl) ?_
            refine lv_iconst (v := 1) hx hb dM_waysFrom_226 (by decide) ?_
            refine nr_iadd hx hb (a1 := st) (b1 := 1) dM_waysFrom_227 ?_
            refine lv_aload_n hx hb dM_waysFrom_228 rfl (lv_at hl 7 rfl) ?_
            refine va_get (D := (dC, dI)) (ci := 1) (v := .int (nI (ms))) (C := "EventPatternsModel") (T := TM) (N := 16) hx hb hbw inM hown hK hP 0 rfl rfl 7 (by decide) (hbw _ kf_M_63) (fun _ h9 => h9) (congrArg (fun z => some (Value.int z)) (hg4)) dM_waysFrom_229 ?_
            refine nr_icmp_ge (tgt := 268) hx hb (a1 := st + 1) (b1 := ms) (by omega) (by omega) dM_waysFrom_232 (by decide) (fun c_232 => ?_) (fun c_232 => ?_)
            · refine lv_iinc (v := nI (nx + 1)) (lv' := [(11, .int (nI (nx + 1))), (12, .int (nI (5 * (nx - (ev - 16))))), (6, .int (acc)), (7, .int (nI (e1))), (8, .int (nI (ed))), (9, .int (nI (st))), (10, .int (nn)), (0, .ref (r 0)), (1, .int (nI (fi))), (2, .int (e0)), (3, .int (s0)), (4, .int (bI (lt))), (5, .int (nI (ev - 16)))]) hx hb dM_waysFrom_268 hl (k := 1) rfl (nI_1 _) (by decide) rfl (fun ls hl => ?_)
              refine lv_goto (tgt := 164) hx hb dM_waysFrom_271 (by decide) ?_
              have hy : mN2 b g ev ms fi e1 st nn nx (mN1 b g ev fi e1 st nn nx y) = upd (y) ((5 * (nx - (ev - 16))) + st) (((y) ((5 * (nx - (ev - 16))) + st)) + (nn)) := by
                first | rw [mN1, if_pos (Or.inl c_192)] | rw [mN1, if_pos (Or.inr c_206)] | rw [mN1, if_neg (fun h => h.elim c_192 (fun h => by rw [c_206] at h; cases h))]
                first | rw [mN2, if_pos (Or.inl (by omega))] | rw [mN2, if_pos (Or.inr c_248)] | rw [mN2, if_neg (fun h => h.elim (fun h => by omega) (fun h => by rw [c_248] at h; cases h))]
              exact ih (k - 1) (by omega) (nx + 1) _ _ _ ls (by omega) (by omega) (by omega) (lv_sub hl [0, 2, 3, 4, 5, 6, 7, 8, 9, 10, 11, 12] rfl) hP hD hS (fun H locs ls hl hP hD hS => by rw [mWN_in (by omega) c_168 (Int32.not_le.mp c_173) hy] at kk; exact kk H locs ls hl hP hD hS)
            · refine lv_aload_n hx hb dM_waysFrom_235 rfl (lv_at hl 7 rfl) ?_
              refine lv_iload hx hb dM_waysFrom_236 (lv_at hl 1 rfl) ?_
              refine lv_iload hx hb dM_waysFrom_238 (lv_at hl 5 rfl) ?_
              refine lv_iconst (v := 1) hx hb dM_waysFrom_240 (by decide) ?_
              refine nr_iadd hx hb (a1 := st) (b1 := 1) dM_waysFrom_241 ?_
              refine lv_iload hx hb dM_waysFrom_242 (lv_at hl 3 rfl) ?_
              refine lv_iload_n hx hb dM_waysFrom_244 rfl (lv_at hl 8 rfl) ?_
              refine vp_callSi (W.runV (As := [.int (nI (nx)), .int (nI (st + 1)), .int (nI (e1)), .int (nI (fi))]) (rest := []) ⟨hx, hb, hml, hown, hbw⟩ (tM_fits1 l dC dI r cI cZ cG (va_up b 7 (upd (y) ((5 * (nx - (ev - 16))) + st) (((y) ((5 * (nx - (ev - 16))) + st)) + (nn)))) (g) (nx) (st + 1) (e1) (fi) (by omega) (by omega) (by omega) (by omega)) (cwV 4 hbw (bw_V km_M_70 ki_yM_fits ksel_yM_fits ki_EventPatternsModel kcM_fits) rfl rfl rfl (by decide +kernel) ⟨Nat.le_of_ble_eq_true rfl, Nat.le_of_ble_eq_true rfl⟩) ⟨fun a U g mk q => by obtain ⟨q0, qP, qK⟩ := q; exact ⟨q0, qP, va_K.moved (u := U) (U := U.calling g mk a) (Vm.Alike.refl U.vm) qK⟩, va_recv hK hP (ci := 1) (q0 := 0) rfl rfl, fun U hU hW => ⟨rfl, by rw [hU]; exact hP, va_K.moved hW.alike hK⟩⟩ rfl rfl hl.1 rfl (lv_room (Nat.le_of_ble_eq_true rfl)) dM_waysFrom_245 ⟨hcs.1, hcs.2⟩) (fun r_245 hq => ?_)
              have hq : r_245 = bI (mFit1 b g (nx) (st + 1) (e1) (fi)) := hq
              subst hq
              refine nr_ifb_eq (tgt := 268) hx hb (b := (mFit1 b g (nx) (st + 1) (e1) (fi))) dM_waysFrom_248 (by decide) (fun c_248 => ?_) (fun c_248 => ?_)
              · refine lv_iinc (v := nI (nx + 1)) (lv' := [(11, .int (nI (nx + 1))), (12, .int (nI (5 * (nx - (ev - 16))))), (6, .int (acc)), (7, .int (nI (e1))), (8, .int (nI (ed))), (9, .int (nI (st))), (10, .int (nn)), (0, .ref (r 0)), (1, .int (nI (fi))), (2, .int (e0)), (3, .int (s0)), (4, .int (bI (lt))), (5, .int (nI (ev - 16)))]) hx hb dM_waysFrom_268 hl (k := 1) rfl (nI_1 _) (by decide) rfl (fun ls hl => ?_)
                refine lv_goto (tgt := 164) hx hb dM_waysFrom_271 (by decide) ?_
                have hy : mN2 b g ev ms fi e1 st nn nx (mN1 b g ev fi e1 st nn nx y) = upd (y) ((5 * (nx - (ev - 16))) + st) (((y) ((5 * (nx - (ev - 16))) + st)) + (nn)) := by
                  first | rw [mN1, if_pos (Or.inl c_192)] | rw [mN1, if_pos (Or.inr c_206)] | rw [mN1, if_neg (fun h => h.elim c_192 (fun h => by rw [c_206] at h; cases h))]
                  first | rw [mN2, if_pos (Or.inl (by omega))] | rw [mN2, if_pos (Or.inr c_248)] | rw [mN2, if_neg (fun h => h.elim (fun h => by omega) (fun h => by rw [c_248] at h; cases h))]
                exact ih (k - 1) (by omega) (nx + 1) _ _ _ ls (by omega) (by omega) (by omega) (lv_sub hl [0, 2, 3, 4, 5, 6, 7, 8, 9, 10, 11, 12] rfl) hP hD hS (fun H locs ls hl hP hD hS => by rw [mWN_in (by omega) c_168 (Int32.not_le.mp c_173) hy] at kk; exact kk H locs ls hl hP hD hS)
              · refine lv_aload_n hx hb dM_waysFrom_251 rfl (lv_at hl 7 rfl) ?_
                refine va_get (D := (dC, dI)) (ci := 1) (v := .ref (r 8)) (C := "EventPatternsModel") (T := TM) (N := 16) hx hb hbw inM hown hK hP 0 rfl rfl 12 (by decide) (hbw _ kf_M_32) (fun _ h9 => h9) rfl dM_waysFrom_252 ?_
                refine lv_iload hx hb dM_waysFrom_255 (lv_at hl 0 rfl) ?_
                refine lv_iload hx hb dM_waysFrom_257 (lv_at hl 5 rfl) ?_
                refine nr_iadd hx hb (a1 := 5 * (nx - (ev - 16))) (b1 := st) dM_waysFrom_259 ?_
                refine lv_iconst (v := 1) hx hb dM_waysFrom_260 (by decide) ?_
                refine nr_iadd hx hb (a1 := (5 * (nx - (ev - 16))) + st) (b1 := 1) dM_waysFrom_261 ?_
                refine lv_dup2_11 hx hb dM_waysFrom_262 rfl rfl ?_
                refine nr_iald (f := upd (y) ((5 * (nx - (ev - 16))) + st) (((y) ((5 * (nx - (ev - 16))) + st)) + (nn))) hx hb hK hP 8 0 rfl rfl (j := ((5 * (nx - (ev - 16))) + st) + 1) (by omega) (by decide) dM_waysFrom_263 ?_
                refine lv_iload hx hb dM_waysFrom_264 (lv_at hl 6 rfl) ?_
                refine lv_iadd hx hb dM_waysFrom_266 ?_
                refine nr_iast (f := upd (y) ((5 * (nx - (ev - 16))) + st) (((y) ((5 * (nx - (ev - 16))) + st)) + (nn))) hx hb hK hP hD hS 8 0 rfl rfl (j := ((5 * (nx - (ev - 16))) + st) + 1) (by omega) (by decide) dM_waysFrom_267 (fun H locs hP hD hS => ?_)
                have hP : va_P (dC, dI) cls2 (mw r cI cZ (va_up b 7 (upd (upd (y) ((5 * (nx - (ev - 16))) + st) (((y) ((5 * (nx - (ev - 16))) + st)) + (nn))) (((5 * (nx - (ev - 16))) + st) + 1) (((upd (y) ((5 * (nx - (ev - 16))) + st) (((y) ((5 * (nx - (ev - 16))) + st)) + (nn))) (((5 * (nx - (ev - 16))) + st) + 1)) + (nn)))) (g)) H := hP
                have hD : va_D A (mw r cI cZ (va_up b 7 (upd (upd (y) ((5 * (nx - (ev - 16))) + st) (((y) ((5 * (nx - (ev - 16))) + st)) + (nn))) (((5 * (nx - (ev - 16))) + st) + 1) (((upd (y) ((5 * (nx - (ev - 16))) + st) (((y) ((5 * (nx - (ev - 16))) + st)) + (nn))) (((5 * (nx - (ev - 16))) + st) + 1)) + (nn)))) (g)) := hD
                refine lv_iinc (v := nI (nx + 1)) (lv' := [(11, .int (nI (nx + 1))), (12, .int (nI (5 * (nx - (ev - 16))))), (6, .int (acc)), (7, .int (nI (e1))), (8, .int (nI (ed))), (9, .int (nI (st))), (10, .int (nn)), (0, .ref (r 0)), (1, .int (nI (fi))), (2, .int (e0)), (3, .int (s0)), (4, .int (bI (lt))), (5, .int (nI (ev - 16)))]) hx hb dM_waysFrom_268 hl (k := 1) rfl (nI_1 _) (by decide) rfl (fun ls hl => ?_)
                refine lv_goto (tgt := 164) hx hb dM_waysFrom_271 (by decide) ?_
                have hy : mN2 b g ev ms fi e1 st nn nx (mN1 b g ev fi e1 st nn nx y) = upd (upd (y) ((5 * (nx - (ev - 16))) + st) (((y) ((5 * (nx - (ev - 16))) + st)) + (nn))) (((5 * (nx - (ev - 16))) + st) + 1) (((upd (y) ((5 * (nx - (ev - 16))) + st) (((y) ((5 * (nx - (ev - 16))) + st)) + (nn))) (((5 * (nx - (ev - 16))) + st) + 1)) + (nn)) := by
                  first | rw [mN1, if_pos (Or.inl c_192)] | rw [mN1, if_pos (Or.inr c_206)] | rw [mN1, if_neg (fun h => h.elim c_192 (fun h => by rw [c_206] at h; cases h))]
                  first | rw [mN2, if_pos (Or.inl (by omega))] | rw [mN2, if_pos (Or.inr c_248)] | rw [mN2, if_neg (fun h => h.elim (fun h => by omega) (fun h => by rw [c_248] at h; cases h))]
                exact ih (k - 1) (by omega) (nx + 1) _ _ _ ls (by omega) (by omega) (by omega) (lv_sub hl [0, 2, 3, 4, 5, 6, 7, 8, 9, 10, 11, 12] rfl) hP hD hS (fun H locs ls hl hP hD hS => by rw [mWN_in (by omega) c_168 (Int32.not_le.mp c_173) hy] at kk; exact kk H locs ls hl hP hD hS)
set_option maxHeartbeats 4000000 in
set_option maxRecDepth 100000 in
theorem lM_S (l : Launch) (dC : Nat → ClassId) (dI : Nat → Nat → Nat) (r : Nat → Nat) (cI cZ cG : ClassId) (b : Nat → Nat → Int32) (g : Nat → Int32) {p : Program} {e : Env} {s : State} {m : MethodId} {args : Array Value} {below : List Frame} {meth : Method} {c : Code} {Q : State → Prop} {A : Nat → Prop} (ev ms fi : Nat) (e0 s0 : Int32) (lt : Bool) (hev : ev ≤ 400) (hg1 : g 1 = nI ev) (h0 : 1 ≤ ms) (hm : ms ≤ 5) (hg4 : g 4 = nI ms) (hfi : fi < 400) {cells slots : Nat} (hcs : cells ≤ 0 ∧ slots ≤ 0) (hx : p.tables.exec = Jvm.exec) (hb : c.code = cM_waysFrom) (hml : c.maxLocals = 13) (hown : s.vm.findClass "EventPatternsModel" = some m.cls) (hbw : ∀ w ∈ bw, w.before args s = true) (hK : va_K (dC, dI) cls2 (xt cI cZ cG) s) (e1 ed : Nat) (he : e1 < ev) (he2 : ev - 16 ≤ e1) (hed : ed ≤ ev) :
    ∀ (k st : Nat) (acc : Int32) (y : Nat → Int32) (H : Heap) (locs : List Loc) (ls : Array Slot), ms ≤ st + k → st ≤ ms → lv_has ls 13 [(9, .int (nI (st))), (6, .int (acc)), (7, .int (nI (e1))), (8, .int (nI (ed))), (0, .ref (r 0)), (1, .int (nI (fi))), (2, .int (e0)), (3, .int (s0)), (4, .int (bI (lt))), (5, .int (nI (ev - 16)))] → va_P (dC, dI) cls2 (mw r cI cZ (va_up b 7 (y)) g) H → va_D A (mw r cI cZ (va_up b 7 (y)) g) → va_S A s.heap H locs →
      (∀ (H : Heap) (locs : List Loc) (ls : Array Slot), lv_has ls 13 [(6, .int ((mWS b g ev ms fi e1 ed lt (k + 1) st acc y).1)), (7, .int (nI (e1))), (8, .int (nI (ed))), (0, .ref (r 0)), (1, .int (nI (fi))), (2, .int (e0)), (3, .int (s0)), (4, .int (bI (lt))), (5, .int (nI (ev - 16)))] → va_P (dC, dI) cls2 (mw r cI cZ (va_up b 7 ((mWS b g ev ms fi e1 ed lt (k + 1) st acc y).2)) g) H → va_D A (mw r cI cZ (va_up b 7 ((mWS b g ev ms fi e1 ed lt (k + 1) st acc y).2)) g) → va_S A s.heap H locs → W p l e ({ frames := 1, cells := 0, slots := 0, locals := 25 }) s m args below meth c H locs cells slots Q (F0 m 280 ls [])) → W p l e ({ frames := 1, cells := 0, slots := 0, locals := 25 }) s m args below meth c H locs cells slots Q (F0 m 93 ls []) := by
  intro k
  induction k using Nat.strongRecOn with
  | ind k ih =>
    intro st acc y H locs ls hk hst hl hP hD hS kk
    refine lv_iload hx hb dM_waysFrom_93 (lv_at hl 0 rfl) ?_
    refine lv_aload_n hx hb dM_waysFrom_95 rfl (lv_at hl 4 rfl) ?_
    refine va_get (D := (dC, dI)) (ci := 1) (v := .int (nI (ms))) (C := "EventPatternsModel") (T := TM) (N := 16) hx hb hbw inM hown hK hP 0 rfl rfl 7 (by decide) (hbw _ kf_M_63) (fun _ h9 => h9) (congrArg (fun z => some (Value.int z)) (hg4)) dM_waysFrom_96 ?_
    refine nr_icmp_ge (tgt := 280) hx hb (a1 := st) (b1 := ms) (by omega) (by omega) dM_waysFrom_99 (by decide) (fun c_99 => ?_) (fun c_99 => ?_)
    · rw [mWS_out c_99] at kk
      exact kk H locs ls (lv_sub hl [1, 2, 3, 4, 5, 6, 7, 8, 9] rfl) hP hD hS
    · refine lv_aload_n hx hb dM_waysFrom_102 rfl (lv_at hl 4 rfl) ?_
      refine va_get (D := (dC, dI)) (ci := 1) (v := .ref (r 8)) (C := "EventPatternsModel") (T := TM) (N := 16) hx hb hbw inM hown hK hP 0 rfl rfl 12 (by decide) (hbw _ kf_M_32) (fun _ h9 => h9) rfl dM_waysFrom_103 ?_
      refine lv_iconst (v := 5) hx hb dM_waysFrom_106 (by decide) ?_
      refine lv_iload hx hb dM_waysFrom_107 (lv_at hl 2 rfl) ?_
      refine lv_iload hx hb dM_waysFrom_109 (lv_at hl 9 rfl) ?_
      refine nr_isub hx hb (a1 := e1) (b1 := ev - 16) (by omega) dM_waysFrom_111 ?_
      refine nr_imul hx hb (a1 := 5) (b1 := e1 - (ev - 16)) dM_waysFrom_112 ?_
      refine lv_iload hx hb dM_waysFrom_113 (lv_at hl 0 rfl) ?_
      refine nr_iadd hx hb (a1 := 5 * (e1 - (ev - 16))) (b1 := st) dM_waysFrom_115 ?_
      refine nr_iald (f := y) hx hb hK hP 8 0 rfl rfl (j := (5 * (e1 - (ev - 16))) + st) (by omega) (by decide) dM_waysFrom_116 ?_
      refine lv_istore (lv' := [(10, .int ((y) ((5 * (e1 - (ev - 16))) + st))), (9, .int (nI (st))), (6, .int (acc)), (7, .int (nI (e1))), (8, .int (nI (ed))), (0, .ref (r 0)), (1, .int (nI (fi))), (2, .int (e0)), (3, .int (s0)), (4, .int (bI (lt))), (5, .int (nI (ev - 16)))]) hx hb dM_waysFrom_117 hl (by decide) rfl (fun ls hl => ?_)
      refine lv_iload hx hb dM_waysFrom_119 (lv_at hl 1 rfl) ?_
      refine lv_aload_n hx hb dM_waysFrom_121 rfl (lv_at hl 5 rfl) ?_
      refine va_get (D := (dC, dI)) (ci := 1) (v := .int (nI (ms))) (C := "EventPatternsModel") (T := TM) (N := 16) hx hb hbw inM hown hK hP 0 rfl rfl 7 (by decide) (hbw _ kf_M_63) (fun _ h9 => h9) (congrArg (fun z => some (Value.int z)) (hg4)) dM_waysFrom_122 ?_
      refine lv_iconst (v := 1) hx hb dM_waysFrom_125 (by decide) ?_
      refine nr_isub hx hb (a1 := ms) (b1 := 1) (by omega) dM_waysFrom_126 ?_
      refine nr_icmp_ne (tgt := 154) hx hb (a1 := st) (b1 := ms - 1) (by omega) (by omega) dM_waysFrom_127 (by decide) (fun c_127 => ?_) (fun c_127 => ?_)
      · refine lv_iload hx hb dM_waysFrom_154 (lv_at hl 2 rfl) ?_
        refine lv_istore (lv' := [(6, .int (acc)), (10, .int ((y) ((5 * (e1 - (ev - 16))) + st))), (9, .int (nI (st))), (7, .int (nI (e1))), (8, .int (nI (ed))), (0, .ref (r 0)), (1, .int (nI (fi))), (2, .int (e0)), (3, .int (s0)), (4, .int (bI (lt))), (5, .int (nI (ev - 16)))]) hx hb dM_waysFrom_156 hl (by decide) rfl (fun ls hl => ?_)
        refine lv_iload hx hb dM_waysFrom_158 (lv_at hl 3 rfl) ?_
        refine lv_iconst (v := 1) hx hb dM_waysFrom_160 (by decide) ?_
        refine nr_iadd hx hb (a1 := e1) (b1 := 1) dM_waysFrom_161 ?_
        refine lv_istore (lv' := [(11, .int (nI (e1 + 1))), (6, .int (acc)), (10, .int ((y) ((5 * (e1 - (ev - 16))) + st))), (9, .int (nI (st))), (7, .int (nI (e1))), (8, .int (nI (ed))), (0, .ref (r 0)), (1, .int (nI (fi))), (2, .int (e0)), (3, .int (s0)), (4, .int (bI (lt))), (5, .int (nI (ev - 16)))]) hx hb dM_waysFrom_162 hl (by decide) rfl (fun ls hl => ?_)
        have hacc : mAcc ev ms e1 st lt acc (y (5 * (e1 - (ev - 16)) + st)) = acc := by unfold mAcc; first | exact if_pos ⟨by omega, Or.inr (by omega)⟩ | exact if_pos ⟨by omega, Or.inl (by assumption)⟩ | exact if_neg (fun u => by omega) | exact if_neg (by rintro ⟨u1, u2 | u2⟩ <;> first | omega | (rw [c_132] at u2; cases u2))
        refine lM_N l dC dI r cI cZ cG b g ev ms fi e0 s0 lt hev hg1 h0 hm hg4 hfi hcs hx hb hml hown hbw hK e1 st ed (acc) ((y) ((5 * (e1 - (ev - 16))) + st)) he he2 (by omega) hed ed (e1 + 1) y H locs ls (by omega) (by omega) (by omega) (lv_sub hl [0, 1, 4, 5, 3, 2, 6, 7, 8, 9, 10, 11] rfl) hP hD hS (fun H locs ls hl hP hD hS => ?_)
        rw [← hacc] at hl
        refine lv_iinc (v := nI (st + 1)) (lv' := [(9, .int (nI (st + 1))), (6, .int (mAcc ev ms e1 st lt acc (y (5 * (e1 - (ev - 16)) + st)))), (7, .int (nI (e1))), (8, .int (nI (ed))), (10, .int ((y) ((5 * (e1 - (ev - 16))) + st))), (0, .ref (r 0)), (1, .int (nI (fi))), (2, .int (e0)), (3, .int (s0)), (4, .int (bI (lt))), (5, .int (nI (ev - 16)))]) hx hb dM_waysFrom_274 hl (k := 3) rfl (nI_1 _) (by decide) rfl (fun ls hl => ?_)
        refine lv_goto (tgt := 93) hx hb dM_waysFrom_277 (by decide) ?_
        exact ih (k - 1) (by omega) (st + 1) _ _ _ _ ls (by omega) (by omega) (lv_sub hl [0, 1, 2, 3, 5, 6, 7, 8, 9, 10] rfl) hP hD hS (fun H locs ls hl hP hD hS => by rw [mWS_in (by omega) c_99] at kk; exact kk H locs ls hl hP hD hS)
      · refine lv_iload hx hb dM_waysFrom_130 (lv_at hl 9 rfl) ?_
        refine nr_ifb_eq (tgt := 146) hx hb (b := (lt)) dM_waysFrom_132 (by decide) (fun c_132 => ?_) (fun c_132 => ?_)
        · refine lv_iload hx hb dM_waysFrom_146 (lv_at hl 2 rfl) ?_
          refine lv_iload hx hb dM_waysFrom_148 (lv_at hl 0 rfl) ?_
          refine lv_iadd hx hb dM_waysFrom_150 ?_
          refine lv_goto (tgt := 156) hx hb dM_waysFrom_151 (by decide) ?_
          refine lv_istore (lv' := [(6, .int ((acc) + ((y) ((5 * (e1 - (ev - 16))) + st)))), (10, .int ((y) ((5 * (e1 - (ev - 16))) + st))), (9, .int (nI (st))), (7, .int (nI (e1))), (8, .int (nI (ed))), (0, .ref (r 0)), (1, .int (nI (fi))), (2, .int (e0)), (3, .int (s0)), (4, .int (bI (lt))), (5, .int (nI (ev - 16)))]) hx hb dM_waysFrom_156 hl (by decide) rfl (fun ls hl => ?_)
          refine lv_iload hx hb dM_waysFrom_158 (lv_at hl 3 rfl) ?_
          refine lv_iconst (v := 1) hx hb dM_waysFrom_160 (by decide) ?_
          refine nr_iadd hx hb (a1 := e1) (b1 := 1) dM_waysFrom_161 ?_
          refine lv_istore (lv' := [(11, .int (nI (e1 + 1))), (6, .int ((acc) + ((y) ((5 * (e1 - (ev - 16))) + st)))), (10, .int ((y) ((5 * (e1 - (ev - 16))) + st))), (9, .int (nI (st))), (7, .int (nI (e1))), (8, .int (nI (ed))), (0, .ref (r 0)), (1, .int (nI (fi))), (2, .int (e0)), (3, .int (s0)), (4, .int (bI (lt))), (5, .int (nI (ev - 16)))]) hx hb dM_waysFrom_162 hl (by decide) rfl (fun ls hl => ?_)
          have hacc : mAcc ev ms e1 st lt acc (y (5 * (e1 - (ev - 16)) + st)) = (acc) + ((y) ((5 * (e1 - (ev - 16))) + st)) := by unfold mAcc; first | exact if_pos ⟨by omega, Or.inr (by omega)⟩ | exact if_pos ⟨by omega, Or.inl (by assumption)⟩ | exact if_neg (fun u => by omega) | exact if_neg (by rintro ⟨u1, u2 | u2⟩ <;> first | omega | (rw [c_132] at u2; cases u2))
          refine lM_N l dC dI r cI cZ cG b g ev ms fi e0 s0 lt hev hg1 h0 hm hg4 hfi hcs hx hb hml hown hbw hK e1 st ed ((acc) + ((y) ((5 * (e1 - (ev - 16))) + st))) ((y) ((5 * (e1 - (ev - 16))) + st)) he he2 (by omega) hed ed (e1 + 1) y H locs ls (by omega) (by omega) (by omega) (lv_sub hl [0, 1, 4, 5, 3, 2, 6, 7, 8, 9, 10, 11] rfl) hP hD hS (fun H locs ls hl hP hD hS => ?_)
          rw [← hacc] at hl
          refine lv_iinc (v := nI (st + 1)) (lv' := [(9, .int (nI (st + 1))), (6, .int (mAcc ev ms e1 st lt acc (y (5 * (e1 - (ev - 16)) + st)))), (7, .int (nI (e1))), (8, .int (nI (ed))), (10, .int ((y) ((5 * (e1 - (ev - 16))) + st))), (0, .ref (r 0)), (1, .int (nI (fi))), (2, .int (e0)), (3, .int (s0)), (4, .int (bI (lt))), (5, .int (nI (ev - 16)))]) hx hb dM_waysFrom_274 hl (k := 3) rfl (nI_1 _) (by decide) rfl (fun ls hl => ?_)
          refine lv_goto (tgt := 93) hx hb dM_waysFrom_277 (by decide) ?_
          exact ih (k - 1) (by omega) (st + 1) _ _ _ _ ls (by omega) (by omega) (lv_sub hl [0, 1, 2, 3, 5, 6, 7, 8, 9, 10] rfl) hP hD hS (fun H locs ls hl hP hD hS => by rw [mWS_in (by omega) c_99] at kk; exact kk H locs ls hl hP hD hS)
        · refine lv_iload hx hb dM_waysFrom_135 (lv_at hl 3 rfl) ?_
          refine lv_aload_n hx hb dM_waysFrom_137 rfl (lv_at hl 5 rfl) ?_
          refine va_get (D := (dC, dI)) (ci := 1) (v := .int (nI (ev))) (C := "EventPatternsModel") (T := TM) (N := 16) hx hb hbw inM hown hK hP 0 rfl rfl 1 (by decide) (hbw _ kf_M_45) (fun _ h9 => h9) (congrArg (fun z => some (Value.int z)) (hg1)) dM_waysFrom_138 ?_
          refine lv_iconst (v := 1) hx hb dM_waysFrom_141 (by decide) ?_
          refine nr_isub hx hb (a1 := ev) (b1 := 1) (by omega) dM_waysFrom_142 ?_
          refine nr_icmp_ne (tgt := 154) hx hb (a1 := e1) (b1 := ev - 1) (by omega) (by omega) dM_waysFrom_143 (by decide) (fun c_143 => ?_) (fun c_143 => ?_)
          · refine lv_iload hx hb dM_waysFrom_154 (lv_at hl 2 rfl) ?_
            refine lv_istore (lv' := [(6, .int (acc)), (10, .int ((y) ((5 * (e1 - (ev - 16))) + st))), (9, .int (nI (st))), (7, .int (nI (e1))), (8, .int (nI (ed))), (0, .ref (r 0)), (1, .int (nI (fi))), (2, .int (e0)), (3, .int (s0)), (4, .int (bI (lt))), (5, .int (nI (ev - 16)))]) hx hb dM_waysFrom_156 hl (by decide) rfl (fun ls hl => ?_)
            refine lv_iload hx hb dM_waysFrom_158 (lv_at hl 3 rfl) ?_
            refine lv_iconst (v := 1) hx hb dM_waysFrom_160 (by decide) ?_
            refine nr_iadd hx hb (a1 := e1) (b1 := 1) dM_waysFrom_161 ?_
            refine lv_istore (lv' := [(11, .int (nI (e1 + 1))), (6, .int (acc)), (10, .int ((y) ((5 * (e1 - (ev - 16))) + st))), (9, .int (nI (st))), (7, .int (nI (e1))), (8, .int (nI (ed))), (0, .ref (r 0)), (1, .int (nI (fi))), (2, .int (e0)), (3, .int (s0)), (4, .int (bI (lt))), (5, .int (nI (ev - 16)))]) hx hb dM_waysFrom_162 hl (by decide) rfl (fun ls hl => ?_)
            have hacc : mAcc ev ms e1 st lt acc (y (5 * (e1 - (ev - 16)) + st)) = acc := by unfold mAcc; first | exact if_pos ⟨by omega, Or.inr (by omega)⟩ | exact if_pos ⟨by omega, Or.inl (by assumption)⟩ | exact if_neg (fun u => by omega) | exact if_neg (by rintro ⟨u1, u2 | u2⟩ <;> first | omega | (rw [c_132] at u2; cases u2))
            refine lM_N l dC dI r cI cZ cG b g ev ms fi e0 s0 lt hev hg1 h0 hm hg4 hfi hcs hx hb hml hown hbw hK e1 st ed (acc) ((y) ((5 * (e1 - (ev - 16))) + st)) he he2 (by omega) hed ed (e1 + 1) y H locs ls (by omega) (by omega) (by omega) (lv_sub hl [0, 1, 4, 5, 3, 2, 6, 7, 8, 9, 10, 11] rfl) hP hD hS (fun H locs ls hl hP hD hS => ?_)
            rw [← hacc] at hl
            refine lv_iinc (v := nI (st + 1)) (lv' := [(9, .int (nI (st + 1))), (6, .int (mAcc ev ms e1 st lt acc (y (5 * (e1 - (ev - 16)) + st)))), (7, .int (nI (e1))), (8, .int (nI (ed))), (10, .int ((y) ((5 * (e1 - (ev - 16))) + st))), (0, .ref (r 0)), (1, .int (nI (fi))), (2, .int (e0)), (3, .int (s0)), (4, .int (bI (lt))), (5, .int (nI (ev - 16)))]) hx hb dM_waysFrom_274 hl (k := 3) rfl (nI_1 _) (by decide) rfl (fun ls hl => ?_)
            refine lv_goto (tgt := 93) hx hb dM_waysFrom_277 (by decide) ?_
            exact ih (k - 1) (by omega) (st + 1) _ _ _ _ ls (by omega) (by omega) (lv_sub hl [0, 1, 2, 3, 5, 6, 7, 8, 9, 10] rfl) hP hD hS (fun H locs ls hl hP hD hS => by rw [mWS_in (by omega) c_99] at kk; exact kk H locs ls hl hP hD hS)
          · refine lv_iload hx hb dM_waysFrom_146 (lv_at hl 2 rfl) ?_
            refine lv_iload hx hb dM_waysFrom_148 (lv_at hl 0 rfl) ?_
            refine lv_iadd hx hb dM_waysFrom_150 ?_
            refine lv_goto (tgt := 156) hx hb dM_waysFrom_151 (by decide) ?_
            refine lv_istore (lv' := [(6, .int ((acc) + ((y) ((5 * (e1 - (ev - 16))) + st)))), (10, .int ((y) ((5 * (e1 - (ev - 16))) + st))), (9, .int (nI (st))), (7, .int (nI (e1))), (8, .int (nI (ed))), (0, .ref (r 0)), (1, .int (nI (fi))), (2, .int (e0)), (3, .int (s0)), (4, .int (bI (lt))), (5, .int (nI (ev - 16)))]) hx hb dM_waysFrom_156 hl (by decide) rfl (fun ls hl => ?_)
            refine lv_iload hx hb dM_waysFrom_158 (lv_at hl 3 rfl) ?_
            refine lv_iconst (v := 1) hx hb dM_waysFrom_160 (by decide) ?_
            refine nr_iadd hx hb (a1 := e1) (b1 := 1) dM_waysFrom_161 ?_
            refine lv_istore (lv' := [(11, .int (nI (e1 + 1))), (6, .int ((acc) + ((y) ((5 * (e1 - (ev - 16))) + st)))), (10, .int ((y) ((5 * (e1 - (ev - 16))) + st))), (9, .int (nI (st))), (7, .int (nI (e1))), (8, .int (nI (ed))), (0, .ref (r 0)), (1, .int (nI (fi))), (2, .int (e0)), (3, .int (s0)), (4, .int (bI (lt))), (5, .int (nI (ev - 16)))]) hx hb dM_waysFrom_162 hl (by decide) rfl (fun ls hl => ?_)
            have hacc : mAcc ev ms e1 st lt acc (y (5 * (e1 - (ev - 16)) + st)) = (acc) + ((y) ((5 * (e1 - (ev - 16))) + st)) := by unfold mAcc; first | exact if_pos ⟨by omega, Or.inr (by omega)⟩ | exact if_pos ⟨by omega, Or.inl (by assumption)⟩ | exact if_neg (fun u => by omega) | exact if_neg (by rintro ⟨u1, u2 | u2⟩ <;> first | omega | (rw [c_132] at u2; cases u2))
            refine lM_N l dC dI r cI cZ cG b g ev ms fi e0 s0 lt hev hg1 h0 hm hg4 hfi hcs hx hb hml hown hbw hK e1 st ed ((acc) + ((y) ((5 * (e1 - (ev - 16))) + st))) ((y) ((5 * (e1 - (ev - 16))) + st)) he he2 (by omega) hed ed (e1 + 1) y H locs ls (by omega) (by omega) (by omega) (lv_sub hl [0, 1, 4, 5, 3, 2, 6, 7, 8, 9, 10, 11] rfl) hP hD hS (fun H locs ls hl hP hD hS => ?_)
            rw [← hacc] at hl
            refine lv_iinc (v := nI (st + 1)) (lv' := [(9, .int (nI (st + 1))), (6, .int (mAcc ev ms e1 st lt acc (y (5 * (e1 - (ev - 16)) + st)))), (7, .int (nI (e1))), (8, .int (nI (ed))), (10, .int ((y) ((5 * (e1 - (ev - 16))) + st))), (0, .ref (r 0)), (1, .int (nI (fi))), (2, .int (e0)), (3, .int (s0)), (4, .int (bI (lt))), (5, .int (nI (ev - 16)))]) hx hb dM_waysFrom_274 hl (k := 3) rfl (nI_1 _) (by decide) rfl (fun ls hl => ?_)
            refine lv_goto (tgt := 93) hx hb dM_waysFrom_277 (by decide) ?_
            exact ih (k - 1) (by omega) (st + 1) _ _ _ _ ls (by omega) (by omega) (lv_sub hl [0, 1, 2, 3, 5, 6, 7, 8, 9, 10] rfl) hP hD hS (fun H locs ls hl hP hD hS => by rw [mWS_in (by omega) c_99] at kk; exact kk H locs ls hl hP hD hS)
set_option maxHeartbeats 4000000 in
set_option maxRecDepth 100000 in
theorem lM_E (l : Launch) (dC : Nat → ClassId) (dI : Nat → Nat → Nat) (r : Nat → Nat) (cI cZ cG : ClassId) (b : Nat → Nat → Int32) (g : Nat → Int32) {p : Program} {e : Env} {s : State} {m : MethodId} {args : Array Value} {below : List Frame} {meth : Method} {c : Code} {Q : State → Prop} {A : Nat → Prop} (ev ms fi : Nat) (e0 s0 : Int32) (lt : Bool) (hev : ev ≤ 400) (hg1 : g 1 = nI ev) (h0 : 1 ≤ ms) (hm : ms ≤ 5) (hg4 : g 4 = nI ms) (hfi : fi < 400) {cells slots : Nat} (hcs : cells ≤ 0 ∧ slots ≤ 0) (hx : p.tables.exec = Jvm.exec) (hb : c.code = cM_waysFrom) (hml : c.maxLocals = 13) (hown : s.vm.findClass "EventPatternsModel" = some m.cls) (hbw : ∀ w ∈ bw, w.before args s = true) (hK : va_K (dC, dI) cls2 (xt cI cZ cG) s) :
    ∀ (k e1 : Nat) (acc : Int32) (y : Nat → Int32) (H : Heap) (locs : List Loc) (ls : Array Slot), ev ≤ e1 + k → ev - 16 ≤ e1 → e1 ≤ ev → lv_has ls 13 [(7, .int (nI (e1))), (6, .int (acc)), (0, .ref (r 0)), (1, .int (nI (fi))), (2, .int (e0)), (3, .int (s0)), (4, .int (bI (lt))), (5, .int (nI (ev - 16)))] → va_P (dC, dI) cls2 (mw r cI cZ (va_up b 7 (y)) g) H → va_D A (mw r cI cZ (va_up b 7 (y)) g) → va_S A s.heap H locs →
      (∀ (H : Heap) (locs : List Loc) (ls : Array Slot), lv_has ls 13 [(6, .int (mWE b g ev ms fi lt (k + 1) e1 acc y).1)] → va_P (dC, dI) cls2 (mw r cI cZ (va_up b 7 ((mWE b g ev ms fi lt (k + 1) e1 acc y).2)) g) H → va_D A (mw r cI cZ (va_up b 7 ((mWE b g ev ms fi lt (k + 1) e1 acc y).2)) g) → va_S A s.heap H locs → W p l e ({ frames := 1, cells := 0, slots := 0, locals := 25 }) s m args below meth c H locs cells slots Q (F0 m 286 ls [])) → W p l e ({ frames := 1, cells := 0, slots := 0, locals := 25 }) s m args below meth c H locs cells slots Q (F0 m 50 ls []) := by
  intro k
  induction k using Nat.strongRecOn with
  | ind k ih =>
    intro e1 acc y H locs ls hk he0 he1 hl hP hD hS kk
    refine lv_iload hx hb dM_waysFrom_50 (lv_at hl 0 rfl) ?_
    refine lv_aload_n hx hb dM_waysFrom_52 rfl (lv_at hl 2 rfl) ?_
    refine va_get (D := (dC, dI)) (ci := 1) (v := .int (nI (ev))) (C := "EventPatternsModel") (T := TM) (N := 16) hx hb hbw inM hown hK hP 0 rfl rfl 1 (by decide) (hbw _ kf_M_45) (fun _ h9 => h9) (congrArg (fun z => some (Value.int z)) (hg1)) dM_waysFrom_53 ?_
    refine nr_icmp_ge (tgt := 286) hx hb (a1 := e1) (b1 := ev) (by omega) (by omega) dM_waysFrom_56 (by decide) (fun c_56 => ?_) (fun c_56 => ?_)
    · rw [mWE_out c_56] at kk
      exact kk H locs ls (lv_sub hl [1] rfl) hP hD hS
    · refine lv_aload_n hx hb dM_waysFrom_59 rfl (lv_at hl 2 rfl) ?_
      refine va_get (D := (dC, dI)) (ci := 1) (v := .int (g 2)) (C := "EventPatternsModel") (T := TM) (N := 16) hx hb hbw inM hown hK hP 0 rfl rfl 5 (by decide) (hbw _ kf_M_57) (fun _ h9 => h9) rfl dM_waysFrom_60 ?_
      refine lv_if_ne (tgt := 84) hx hb dM_waysFrom_63 (by decide) (fun c_63 => ?_) (fun c_63 => ?_)
      · refine lv_aload_n hx hb dM_waysFrom_84 rfl (lv_at hl 2 rfl) ?_
        refine va_get (D := (dC, dI)) (ci := 1) (v := .int (nI (ev))) (C := "EventPatternsModel") (T := TM) (N := 16) hx hb hbw inM hown hK hP 0 rfl rfl 1 (by decide) (hbw _ kf_M_45) (fun _ h9 => h9) (congrArg (fun z => some (Value.int z)) (hg1)) dM_waysFrom_85 ?_
        refine lv_istore (lv' := [(8, .int (nI (ev))), (7, .int (nI (e1))), (6, .int (acc)), (0, .ref (r 0)), (1, .int (nI (fi))), (2, .int (e0)), (3, .int (s0)), (4, .int (bI (lt))), (5, .int (nI (ev - 16)))]) hx hb dM_waysFrom_88 hl (by decide) rfl (fun ls hl => ?_)
        refine lv_iconst (v := 0) hx hb dM_waysFrom_90 (by decide) ?_
        refine lv_istore (lv' := [(9, .int (0)), (8, .int (nI (ev))), (7, .int (nI (e1))), (6, .int (acc)), (0, .ref (r 0)), (1, .int (nI (fi))), (2, .int (e0)), (3, .int (s0)), (4, .int (bI (lt))), (5, .int (nI (ev - 16)))]) hx hb dM_waysFrom_91 hl (by decide) rfl (fun ls hl => ?_)
        have hed : mEnd g ev e1 = ev := by unfold mEnd; first | exact if_pos ⟨c_63, by omega⟩ | exact if_neg (fun h => c_63 h.1) | exact if_neg (by omega)
        refine lM_S l dC dI r cI cZ cG b g ev ms fi e0 s0 lt hev hg1 h0 hm hg4 hfi hcs hx hb hml hown hbw hK e1 (ev) c_56 he0 (by omega) ms 0 acc y H locs ls (by omega) (by omega) (lv_sub hl [0, 3, 2, 1, 4, 5, 6, 7, 8, 9] rfl) hP hD hS (fun H locs ls hl hP hD hS => ?_)
        refine lv_iinc (v := nI (e1 + 1)) (lv' := [(7, .int (nI (e1 + 1))), (6, .int ((mWS b g ev ms fi e1 (ev) lt (ms + 1) 0 acc y).1)), (8, .int (nI (ev))), (0, .ref (r 0)), (1, .int (nI (fi))), (2, .int (e0)), (3, .int (s0)), (4, .int (bI (lt))), (5, .int (nI (ev - 16)))]) hx hb dM_waysFrom_280 hl (k := 1) rfl (nI_1 _) (by decide) rfl (fun ls hl => ?_)
        refine lv_goto (tgt := 50) hx hb dM_waysFrom_283 (by decide) ?_
        exact ih (k - 1) (by omega) (e1 + 1) _ _ _ _ ls (by omega) (by omega) (by omega) (lv_sub hl [0, 1, 3, 4, 5, 6, 7, 8] rfl) hP hD hS (fun H locs ls hl hP hD hS => by rw [mWE_in (by omega) c_56 hed] at kk; exact kk H locs ls hl hP hD hS)
      · refine lv_iload hx hb dM_waysFrom_66 (lv_at hl 0 rfl) ?_
        refine lv_iconst (v := 2) hx hb dM_waysFrom_68 (by decide) ?_
        refine nr_iadd hx hb (a1 := e1) (b1 := 2) dM_waysFrom_69 ?_
        refine lv_aload_n hx hb dM_waysFrom_70 rfl (lv_at hl 2 rfl) ?_
        refine va_get (D := (dC, dI)) (ci := 1) (v := .int (nI (ev))) (C := "EventPatternsModel") (T := TM) (N := 16) hx hb hbw inM hown hK hP 0 rfl rfl 1 (by decide) (hbw _ kf_M_45) (fun _ h9 => h9) (congrArg (fun z => some (Value.int z)) (hg1)) dM_waysFrom_71 ?_
        refine nr_icmp_ge (tgt := 84) hx hb (a1 := e1 + 2) (b1 := ev) (by omega) (by omega) dM_waysFrom_74 (by decide) (fun c_74 => ?_) (fun c_74 => ?_)
        · refine lv_aload_n hx hb dM_waysFrom_84 rfl (lv_at hl 2 rfl) ?_
          refine va_get (D := (dC, dI)) (ci := 1) (v := .int (nI (ev))) (C := "EventPatternsModel") (T := TM) (N := 16) hx hb hbw inM hown hK hP 0 rfl rfl 1 (by decide) (hbw _ kf_M_45) (fun _ h9 => h9) (congrArg (fun z => some (Value.int z)) (hg1)) dM_waysFrom_85 ?_
          refine lv_istore (lv' := [(8, .int (nI (ev))), (7, .int (nI (e1))), (6, .int (acc)), (0, .ref (r 0)), (1, .int (nI (fi))), (2, .int (e0)), (3, .int (s0)), (4, .int (bI (lt))), (5, .int (nI (ev - 16)))]) hx hb dM_waysFrom_88 hl (by decide) rfl (fun ls hl => ?_)
          refine lv_iconst (v := 0) hx hb dM_waysFrom_90 (by decide) ?_
          refine lv_istore (lv' := [(9, .int (0)), (8, .int (nI (ev))), (7, .int (nI (e1))), (6, .int (acc)), (0, .ref (r 0)), (1, .int (nI (fi))), (2, .int (e0)), (3, .int (s0)), (4, .int (bI (lt))), (5, .int (nI (ev - 16)))]) hx hb dM_waysFrom_91 hl (by decide) rfl (fun ls hl => ?_)
          have hed : mEnd g ev e1 = ev := by unfold mEnd; first | exact if_pos ⟨c_63, by omega⟩ | exact if_neg (fun h => c_63 h.1) | exact if_neg (by omega)
          refine lM_S l dC dI r cI cZ cG b g ev ms fi e0 s0 lt hev hg1 h0 hm hg4 hfi hcs hx hb hml hown hbw hK e1 (ev) c_56 he0 (by omega) ms 0 acc y H locs ls (by omega) (by omega) (lv_sub hl [0, 3, 2, 1, 4, 5, 6, 7, 8, 9] rfl) hP hD hS (fun H locs ls hl hP hD hS => ?_)
          refine lv_iinc (v := nI (e1 + 1)) (lv' := [(7, .int (nI (e1 + 1))), (6, .int ((mWS b g ev ms fi e1 (ev) lt (ms + 1) 0 acc y).1)), (8, .int (nI (ev))), (0, .ref (r 0)), (1, .int (nI (fi))), (2, .int (e0)), (3, .int (s0)), (4, .int (bI (lt))), (5, .int (nI (ev - 16)))]) hx hb dM_waysFrom_280 hl (k := 1) rfl (nI_1 _) (by decide) rfl (fun ls hl => ?_)
          refine lv_goto (tgt := 50) hx hb dM_waysFrom_283 (by decide) ?_
          exact ih (k - 1) (by omega) (e1 + 1) _ _ _ _ ls (by omega) (by omega) (by omega) (lv_sub hl [0, 1, 3, 4, 5, 6, 7, 8] rfl) hP hD hS (fun H locs ls hl hP hD hS => by rw [mWE_in (by omega) c_56 hed] at kk; exact kk H locs ls hl hP hD hS)
        · refine lv_iload hx hb dM_waysFrom_77 (lv_at hl 0 rfl) ?_
          refine lv_iconst (v := 2) hx hb dM_waysFrom_79 (by decide) ?_
          refine nr_iadd hx hb (a1 := e1) (b1 := 2) dM_waysFrom_80 ?_
          refine lv_goto (tgt := 88) hx hb dM_waysFrom_81 (by decide) ?_
          refine lv_istore (lv' := [(8, .int (nI (e1 + 2))), (7, .int (nI (e1))), (6, .int (acc)), (0, .ref (r 0)), (1, .int (nI (fi))), (2, .int (e0)), (3, .int (s0)), (4, .int (bI (lt))), (5, .int (nI (ev - 16)))]) hx hb dM_waysFrom_88 hl (by decide) rfl (fun ls hl => ?_)
          refine lv_iconst (v := 0) hx hb dM_waysFrom_90 (by decide) ?_
          refine lv_istore (lv' := [(9, .int (0)), (8, .int (nI (e1 + 2))), (7, .int (nI (e1))), (6, .int (acc)), (0, .ref (r 0)), (1, .int (nI (fi))), (2, .int (e0)), (3, .int (s0)), (4, .int (bI (lt))), (5, .int (nI (ev - 16)))]) hx hb dM_waysFrom_91 hl (by decide) rfl (fun ls hl => ?_)
          have hed : mEnd g ev e1 = e1 + 2 := by unfold mEnd; first | exact if_pos ⟨c_63, by omega⟩ | exact if_neg (fun h => c_63 h.1) | exact if_neg (by omega)
          refine lM_S l dC dI r cI cZ cG b g ev ms fi e0 s0 lt hev hg1 h0 hm hg4 hfi hcs hx hb hml hown hbw hK e1 (e1 + 2) c_56 he0 (by omega) ms 0 acc y H locs ls (by omega) (by omega) (lv_sub hl [0, 3, 2, 1, 4, 5, 6, 7, 8, 9] rfl) hP hD hS (fun H locs ls hl hP hD hS => ?_)
          refine lv_iinc (v := nI (e1 + 1)) (lv' := [(7, .int (nI (e1 + 1))), (6, .int ((mWS b g ev ms fi e1 (e1 + 2) lt (ms + 1) 0 acc y).1)), (8, .int (nI (e1 + 2))), (0, .ref (r 0)), (1, .int (nI (fi))), (2, .int (e0)), (3, .int (s0)), (4, .int (bI (lt))), (5, .int (nI (ev - 16)))]) hx hb dM_waysFrom_280 hl (k := 1) rfl (nI_1 _) (by decide) rfl (fun ls hl => ?_)
          refine lv_goto (tgt := 50) hx hb dM_waysFrom_283 (by decide) ?_
          exact ih (k - 1) (by omega) (e1 + 1) _ _ _ _ ls (by omega) (by omega) (by omega) (lv_sub hl [0, 1, 3, 4, 5, 6, 7, 8] rfl) hP hD hS (fun H locs ls hl hP hD hS => by rw [mWE_in (by omega) c_56 hed] at kk; exact kk H locs ls hl hP hD hS)
set_option maxHeartbeats 4000000 in
set_option maxRecDepth 100000 in
theorem lM_Z (l : Launch) (dC : Nat → ClassId) (dI : Nat → Nat → Nat) (r : Nat → Nat) (cI cZ cG : ClassId) (b : Nat → Nat → Int32) (g : Nat → Int32) {p : Program} {e : Env} {s : State} {m : MethodId} {args : Array Value} {below : List Frame} {meth : Method} {c : Code} {Q : State → Prop} {A : Nat → Prop} (v1 v2 v3 v4 v5 : Int32) {cells slots : Nat} (hx : p.tables.exec = Jvm.exec) (hb : c.code = cM_waysFrom) (hml : c.maxLocals = 13) (hown : s.vm.findClass "EventPatternsModel" = some m.cls) (hbw : ∀ w ∈ bw, w.before args s = true) (hK : va_K (dC, dI) cls2 (xt cI cZ cG) s) :
    ∀ (k i : Nat) (y : Nat → Int32) (H : Heap) (locs : List Loc) (ls : Array Slot), 80 ≤ i + k → i ≤ 80 → (∀ j, j < i → y j = 0) → lv_has ls 13 [(6, .int (nI i)), (0, .ref (r 0)), (1, .int v1), (2, .int v2), (3, .int v3), (4, .int v4), (5, .int v5)] → va_P (dC, dI) cls2 (mw r cI cZ (va_up b 7 (y)) g) H → va_D A (mw r cI cZ (va_up b 7 (y)) g) → va_S A s.heap H locs →
      (∀ (y : Nat → Int32) (H : Heap) (locs : List Loc) (ls : Array Slot), (∀ j, j < 80 → y j = 0) → lv_has ls 13 [(0, .ref (r 0)), (1, .int v1), (2, .int v2), (3, .int v3), (4, .int v4), (5, .int v5)] → va_P (dC, dI) cls2 (mw r cI cZ (va_up b 7 (y)) g) H → va_D A (mw r cI cZ (va_up b 7 (y)) g) → va_S A s.heap H locs → W p l e ({ frames := 1, cells := 0, slots := 0, locals := 25 }) s m args below meth c H locs cells slots Q (F0 m 30 ls [])) → W p l e ({ frames := 1, cells := 0, slots := 0, locals := 25 }) s m args below meth c H locs cells slots Q (F0 m 9 ls []) := by
  intro k
  induction k using Nat.strongRecOn with
  | ind k ih =>
    intro i y H locs ls hk hi hy hl hP hD hS kk
    refine lv_iload hx hb dM_waysFrom_9 (lv_at hl 0 rfl) ?_
    refine lv_bipush (v := 80) hx hb dM_waysFrom_11 (by decide) ?_
    refine nr_icmp_ge (tgt := 30) hx hb (a1 := i) (b1 := 80) (by omega) (by omega) dM_waysFrom_13 (by decide) (fun c_13 => ?_) (fun c_13 => ?_)
    · exact kk y H locs ls (fun j hj => hy j (by omega)) (lv_sub hl [1, 2, 3, 4, 5, 6] rfl) hP hD hS
    · refine lv_aload_n hx hb dM_waysFrom_16 rfl (lv_at hl 1 rfl) ?_
      refine va_get (D := (dC, dI)) (ci := 1) (v := .ref (r 8)) (C := "EventPatternsModel") (T := TM) (N := 16) hx hb hbw inM hown hK hP 0 rfl rfl 12 (by decide) (hbw _ kf_M_32) (fun _ h9 => h9) rfl dM_waysFrom_17 ?_
      refine lv_iload hx hb dM_waysFrom_20 (lv_at hl 0 rfl) ?_
      refine lv_iconst (v := 0) hx hb dM_waysFrom_22 (by decide) ?_
      refine nr_iast (f := y) hx hb hK hP hD hS 8 0 rfl rfl (j := i) (by omega) (by decide) dM_waysFrom_23 (fun H locs hP hD hS => ?_)
      have hP : va_P (dC, dI) cls2 (mw r cI cZ (va_up b 7 (upd (y) (i) (0))) (g)) H := hP
      have hD : va_D A (mw r cI cZ (va_up b 7 (upd (y) (i) (0))) (g)) := hD
      refine lv_iinc (v := nI (i + 1)) (lv' := [(6, .int (nI (i + 1))), (0, .ref (r 0)), (1, .int (v1)), (2, .int (v2)), (3, .int (v3)), (4, .int (v4)), (5, .int (v5))]) hx hb dM_waysFrom_24 hl (k := 0) rfl (nI_1 _) (by decide) rfl (fun ls hl => ?_)
      refine lv_goto (tgt := 9) hx hb dM_waysFrom_27 (by decide) ?_
      exact ih (k - 1) (by omega) (i + 1) _ _ _ ls (by omega) (by omega) (fun j hj => by by_cases h9 : j = i; (subst h9; exact pk_us); exact (pk_un h9).trans (hy j (by omega))) (lv_sub hl [0, 1, 2, 3, 4, 5, 6] rfl) hP hD hS kk
set_option maxHeartbeats 4000000 in
set_option maxRecDepth 100000 in
/-- waysFrom(first, e0, s0, latest) -/
theorem tM_waysFrom (l : Launch) (dC : Nat → ClassId) (dI : Nat → Nat → Nat) (r : Nat → Nat) (cI cZ cG : ClassId) (b : Nat → Nat → Int32) (g : Nat → Int32) (sz : Nat) (ev ms fi e0 s0 : Nat) (lt : Bool) (hev : ev ≤ 400) (hg1 : g 1 = nI ev) (h0 : 1 ≤ ms) (hm : ms ≤ 5) (hg4 : g 4 = nI ms) (hfi : fi < 400) (he0 : e0 < ev) (he1 : ev - 16 ≤ e0) (hs0 : s0 < ms) : Met l yM_waysFrom wM_waysFrom ({ frames := 1, cells := 0, slots := 0, locals := 25 }) (va_Pc [.ref (r 0), .int (nI (fi)), .int (nI (e0)), .int (nI (s0)), .int (bI (lt))] (fun U => U.heap.size = sz ∧ va_P (dC, dI) cls2 (mw r cI cZ b g) U.heap ∧ va_K (dC, dI) cls2 (xt cI cZ cG) U ∧ va_D (fun _ => True) (mw r cI cZ b g))) (va_Qi (fun (r0 : Int32) (u : MS) => ∃ y y2 : Nat → Int32, (∀ j, j < 80 → y j = 0) ∧ r0 = (mWE b g ev ms fi lt (ev + 1) e0 0 (upd y (5 * (e0 - (ev - 16)) + s0) 1)).1 ∧ u = (va_up b 7 y2, g)) (atM dC dI r cI cZ cG (va_A (mw r cI cZ b g) sz)) (va_A (mw r cI cZ b g) sz)) 0 0 (va_A (mw r cI cZ b g) sz) := by
  refine Met.ofW (cc := cM_waysFrom) (maxL := 13) (ret := (some .int)) (by decide) rfl ?_
  intro p e s m args below meth c s₁ B hml hv
  obtain ⟨rfl, hsz, hP, hK, hD0⟩ := hv
  have hx := B.exec
  have hb := B.bytes
  have hr := B.returns
  have hbw : ∀ w ∈ bw, w.before _ s = true := fun w h => atoms_spec (ws := wM_waysFrom) B.pre w (List.mem_cons_of_mem _ h)
  have hown : s.vm.findClass "EventPatternsModel" = some m.cls := findClass_of_methodNamed B.named
  have hlocks := B.notSynchronized
  subst hsz
  have hD := hD0.self (sz := s.heap.size)
  generalize hAe : va_A (mw r cI cZ b g) s.heap.size = A at hD ⊢
  have hA : ∀ q : Nat, s.heap.size ≤ q → A q := fun q h => by rw [← hAe]; exact Or.inr h
  have hS : va_S A s.heap s.heap [] := va_S.rf
  have hl := lv_entry ([.ref (r 0), .int (nI (fi)), .int (nI (e0)), .int (nI (s0)), .int (bI (lt))]) (n := 13) (Nat.le_of_ble_eq_true rfl)
  rw [lg_entry_eq]
  generalize (lg_sl ([.ref (r 0), .int (nI (fi)), .int (nI (e0)), .int (nI (s0)), .int (bI (lt))]) ++ List.replicate (13 - (lg_sl ([.ref (r 0), .int (nI (fi)), .int (nI (e0)), .int (nI (s0)), .int (bI (lt))])).length) Slot.unset).toArray = ls at hl ⊢
  have hl : lv_has ls 13 [(0, .ref (r 0)), (1, .int (nI (fi))), (2, .int (nI (e0))), (3, .int (nI (s0))), (4, .int (bI (lt)))] := hl
  refine lv_aload_n hx hb dM_waysFrom_0 rfl (lv_at hl 0 rfl) ?_
  refine vp_callSi (W.runV (As := []) (rest := []) ⟨hx, hb, hml, hown, hbw⟩ (tM_from l dC dI r cI cZ cG b g ev hev hg1) (cwV 0 hbw (bw_V km_M_66 ki_yM_from ksel_yM_from ki_EventPatternsModel kcM_from) rfl rfl rfl (by decide +kernel) ⟨Nat.le_of_ble_eq_true rfl, Nat.le_of_ble_eq_true rfl⟩) ⟨fun a U g mk q => by obtain ⟨q0, qP, qK⟩ := q; exact ⟨q0, qP, va_K.moved (u := U) (U := U.calling g mk a) (Vm.Alike.refl U.vm) qK⟩, va_recv hK hP (ci := 1) (q0 := 0) rfl rfl, fun U hU hW => ⟨rfl, by rw [hU]; exact hP, va_K.moved hW.alike hK⟩⟩ rfl rfl hl.1 rfl (lv_room (Nat.le_of_ble_eq_true rfl)) dM_waysFrom_1 ⟨Nat.le_of_ble_eq_true rfl, Nat.le_of_ble_eq_true rfl⟩) (fun r_1 hq => ?_)
  subst hq
  refine lv_istore (lv' := [(5, .int (nI (ev - 16))), (0, .ref (r 0)), (1, .int (nI (fi))), (2, .int (nI (e0))), (3, .int (nI (s0))), (4, .int (bI (lt)))]) hx hb dM_waysFrom_4 hl (by decide) rfl (fun ls hl => ?_)
  refine lv_iconst (v := 0) hx hb dM_waysFrom_6 (by decide) ?_
  refine lv_istore (lv' := [(6, .int (0)), (5, .int (nI (ev - 16))), (0, .ref (r 0)), (1, .int (nI (fi))), (2, .int (nI (e0))), (3, .int (nI (s0))), (4, .int (bI (lt)))]) hx hb dM_waysFrom_7 hl (by decide) rfl (fun ls hl => ?_)
  have hP : va_P (dC, dI) cls2 (mw r cI cZ (va_up b 7 (b 7)) g) s.heap := hP
  have hD : va_D A (mw r cI cZ (va_up b 7 (b 7)) g) := hD
  refine lM_Z l dC dI r cI cZ cG b g (nI fi) (nI e0) (nI s0) (bI lt) (nI (ev - 16)) hx hb hml hown hbw hK 80 0 (b 7) s.heap [] ls (by omega) (by omega) (fun j hj => by omega) (lv_sub hl [0, 2, 3, 4, 5, 6, 1] rfl) hP hD hS (fun y H locs ls hy hl hP hD hS => ?_)
  refine lv_aload_n hx hb dM_waysFrom_30 rfl (lv_at hl 0 rfl) ?_
  refine va_get (D := (dC, dI)) (ci := 1) (v := .ref (r 8)) (C := "EventPatternsModel") (T := TM) (N := 16) hx hb hbw inM hown hK hP 0 rfl rfl 12 (by decide) (hbw _ kf_M_32) (fun _ h9 => h9) rfl dM_waysFrom_31 ?_
  refine lv_iconst (v := 5) hx hb dM_waysFrom_34 (by decide) ?_
  refine lv_iload_n hx hb dM_waysFrom_35 rfl (lv_at hl 2 rfl) ?_
  refine lv_iload hx hb dM_waysFrom_36 (lv_at hl 5 rfl) ?_
  refine nr_isub hx hb (a1 := e0) (b1 := ev - 16) (by omega) dM_waysFrom_38 ?_
  refine nr_imul hx hb (a1 := 5) (b1 := e0 - (ev - 16)) dM_waysFrom_39 ?_
  refine lv_iload_n hx hb dM_waysFrom_40 rfl (lv_at hl 3 rfl) ?_
  refine nr_iadd hx hb (a1 := 5 * (e0 - (ev - 16))) (b1 := s0) dM_waysFrom_41 ?_
  refine lv_iconst (v := 1) hx hb dM_waysFrom_42 (by decide) ?_
  refine nr_iast (f := y) hx hb hK hP hD hS 8 0 rfl rfl (j := (5 * (e0 - (ev - 16))) + s0) (by omega) (by decide) dM_waysFrom_43 (fun H locs hP hD hS => ?_)
  have hP : va_P (dC, dI) cls2 (mw r cI cZ (va_up b 7 (upd (y) ((5 * (e0 - (ev - 16))) + s0) (1))) (g)) H := hP
  have hD : va_D A (mw r cI cZ (va_up b 7 (upd (y) ((5 * (e0 - (ev - 16))) + s0) (1))) (g)) := hD
  refine lv_iconst (v := 0) hx hb dM_waysFrom_44 (by decide) ?_
  refine lv_istore (lv' := [(6, .int (0)), (0, .ref (r 0)), (1, .int (nI (fi))), (2, .int (nI (e0))), (3, .int (nI (s0))), (4, .int (bI (lt))), (5, .int (nI (ev - 16)))]) hx hb dM_waysFrom_45 hl (by decide) rfl (fun ls hl => ?_)
  refine lv_iload_n hx hb dM_waysFrom_47 rfl (lv_at hl 3 rfl) ?_
  refine lv_istore (lv' := [(7, .int (nI (e0))), (6, .int (0)), (0, .ref (r 0)), (1, .int (nI (fi))), (2, .int (nI (e0))), (3, .int (nI (s0))), (4, .int (bI (lt))), (5, .int (nI (ev - 16)))]) hx hb dM_waysFrom_48 hl (by decide) rfl (fun ls hl => ?_)
  refine lM_E l dC dI r cI cZ cG b g ev ms fi (nI e0) (nI s0) lt hev hg1 h0 hm hg4 hfi ⟨Nat.le_refl _, Nat.le_refl _⟩ hx hb hml hown hbw hK ev e0 0 (upd y (5 * (e0 - (ev - 16)) + s0) 1) H locs ls (by omega) (by omega) (by omega) (lv_sub hl [0, 1, 2, 3, 4, 5, 6, 7] rfl) hP hD hS (fun H locs ls hl hP hD hS => ?_)
  refine lv_iload hx hb dM_waysFrom_286 (lv_at hl 0 rfl) ?_
  exact W.iret (v := (mWE b g ev ms fi lt (ev + 1) e0 0 (upd y (5 * (e0 - (ev - 16)) + s0) 1)).1) hx hb hr (fun t ht hW => ⟨⟨(mWE b g ev ms fi lt (ev + 1) e0 0 (upd y (5 * (e0 - (ev - 16)) + s0) 1)).1, (va_up b 7 (mWE b g ev ms fi lt (ev + 1) e0 0 (upd y (5 * (e0 - (ev - 16)) + s0) 1)).2, g), rfl, ⟨y, _, hy, rfl, rfl⟩, by rw [ht]; exact hP, va_K.moved hW.alike hK, hD⟩, hS.F ht⟩) hS.2.2 dM_waysFrom_288
