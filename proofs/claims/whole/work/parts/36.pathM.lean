/-! THE REFERENCE: find -/
def mRest (b : Nat → Nat → Int32) (g : Nat → Int32) (ev ms fi e1 st : Nat) : Nat → Nat → Nat
  | 0, _ => 0
  | k + 1, nx => mF1 b g ev ms fi e1 st nx + mF2 b g ev ms fi e1 st nx + mRest b g ev ms fi e1 st k (nx + 1)
def mPick (b : Nat → Nat → Int32) (g : Nat → Int32) (ev ms fi e1 st : Nat) : Nat → Nat → Nat → Nat × Nat × Nat
  | 0, nx, Lf => (nx, st, Lf)
  | k + 1, nx, Lf => if Lf < mF1 b g ev ms fi e1 st nx then (nx, st, Lf) else if Lf - mF1 b g ev ms fi e1 st nx < mF2 b g ev ms fi e1 st nx then (nx, st + 1, Lf - mF1 b g ev ms fi e1 st nx) else mPick b g ev ms fi e1 st k (nx + 1) (Lf - mF1 b g ev ms fi e1 st nx - mF2 b g ev ms fi e1 st nx)
theorem eN_mul (x : Bool) (n : Nat) : eN x * n = if x then n else 0 := by cases x <;> simp [eN]
theorem mRest_eq {b : Nat → Nat → Int32} {g : Nat → Int32} {ev ms fi e1 st : Nat} (hb : ev - 16 ≤ e1) (hst : st < ms) (hms : ms ≤ 5) (hsy : g 2 = 0 ∨ g 2 = 1) : ∀ k nx, nx + k = ev → e1 < nx → wsum (gEn b g ev ms fi (5 * (e1 - (ev - 16)) + st)) (bI80 (gEn b g ev ms fi) (gBa ev ms false)) (80 - 5 * (nx - (ev - 16))) (5 * (nx - (ev - 16))) = mRest b g ev ms fi e1 st k nx := by
  intro k
  have hi : (5 * (e1 - (ev - 16)) + st) % 5 = st := by omega
  induction k with
  | zero =>
    intro nx h1 h2
    exact wsum_zero _ _ (fun j a c => gEn_0 (fun h => by have q := (gE_f h).2.1; have q2 := mEnd_le g ev (ev - 16 + (5 * (e1 - (ev - 16)) + st) / 5); omega))
  | succ k ih =>
    intro nx h1 h2
    have e := wsum_block (Y := gEn b g ev ms fi (5 * (e1 - (ev - 16)) + st)) (d := bI80 (gEn b g ev ms fi) (gBa ev ms false)) (k := 80 - 5 * (nx + 1 - (ev - 16))) (p := nx - (ev - 16)) (s := st) (by omega) (fun j a c d => gEn_0 (fun h => by have q := (gE_f h).2.2.2.2; omega))
    rw [show 80 - 5 * (nx - (ev - 16)) = (80 - 5 * (nx + 1 - (ev - 16))) + 5 by omega, e, show nx - (ev - 16) + 1 = nx + 1 - (ev - 16) by omega, ih (nx + 1) (by omega) (by omega), mRest]
    have e1' : gEn b g ev ms fi (5 * (e1 - (ev - 16)) + st) (5 * (nx - (ev - 16)) + st) * bI80 (gEn b g ev ms fi) (gBa ev ms false) (5 * (nx - (ev - 16)) + st) = mF1 b g ev ms fi e1 st nx := by
      unfold gEn mF1 gW gEn
      rw [eN_mul, gE_same hb h2 (by omega) hst hms hsy]
    have e2' : (if st + 1 < 5 then gEn b g ev ms fi (5 * (e1 - (ev - 16)) + st) (5 * (nx - (ev - 16)) + (st + 1)) * bI80 (gEn b g ev ms fi) (gBa ev ms false) (5 * (nx - (ev - 16)) + (st + 1)) else 0) = mF2 b g ev ms fi e1 st nx := by
      split
      · rename_i h5
        unfold gEn mF2 gW gEn
        rw [eN_mul, gE_next hb h2 (by omega) hst hms hsy h5]
      · unfold mF2
        rw [decide_eq_false (show ¬ st + 1 < ms by omega)]; rfl
    rw [e1', e2']
theorem gW_rest {b : Nat → Nat → Int32} {g : Nat → Int32} {ev ms fi e1 st : Nat} (hb : ev - 16 ≤ e1) (he : e1 < ev) (hst : st < ms) (hms : ms ≤ 5) (hsy : g 2 = 0 ∨ g 2 = 1) : gW b g ev ms fi false (e1 - (ev - 16)) st = (if st + 1 = ms then 1 else 0) + mRest b g ev ms fi e1 st (ev - (e1 + 1)) (e1 + 1) := by
  have hr := mRest_eq (b := b) (fi := fi) hb hst hms hsy (ev - (e1 + 1)) (e1 + 1) (by omega) (by omega)
  unfold gW
  rw [bI80_eq _ _ (show 5 * (e1 - (ev - 16)) + st < 80 by omega), show 79 - (5 * (e1 - (ev - 16)) + st) = (5 * (e1 + 1 - (ev - 16)) - (5 * (e1 - (ev - 16)) + st + 1)) + (80 - 5 * (e1 + 1 - (ev - 16))) by omega, wsum_split, wsum_zero _ _ (fun j a c => gEn_0 (fun h => by have q := (gE_f h).1; omega)), Nat.zero_add, show 5 * (e1 - (ev - 16)) + st + 1 + (5 * (e1 + 1 - (ev - 16)) - (5 * (e1 - (ev - 16)) + st + 1)) = 5 * (e1 + 1 - (ev - 16)) by omega, hr]
  congr 1
  unfold gBa
  rw [show (5 * (e1 - (ev - 16)) + st) % 5 = st by omega, Bool.not_false, Bool.true_or, Bool.and_true]
  by_cases h : st + 1 = ms
  · rw [decide_eq_true h, if_pos h]; rfl
  · rw [decide_eq_false h, if_neg h]; rfl
theorem mPick_ok {b : Nat → Nat → Int32} {g : Nat → Int32} {ev ms fi e1 st : Nat} (hst : st < ms) : ∀ k nx Lf, nx + k = ev → e1 < nx → Lf < mRest b g ev ms fi e1 st k nx →
    nx ≤ (mPick b g ev ms fi e1 st k nx Lf).1 ∧ (mPick b g ev ms fi e1 st k nx Lf).1 < ev ∧ (mPick b g ev ms fi e1 st k nx Lf).2.1 < ms ∧ (mPick b g ev ms fi e1 st k nx Lf).2.2 ≤ Lf ∧ (mPick b g ev ms fi e1 st k nx Lf).2.2 < gW b g ev ms fi false ((mPick b g ev ms fi e1 st k nx Lf).1 - (ev - 16)) (mPick b g ev ms fi e1 st k nx Lf).2.1 := by
  intro k
  induction k with
  | zero => intro nx Lf h1 h2 h3; rw [mRest] at h3; omega
  | succ k ih =>
    intro nx Lf h1 h2 h3
    rw [mRest] at h3
    rw [mPick]
    split
    · rename_i h4
      refine ⟨by omega, by omega, hst, Nat.le_refl _, ?_⟩
      unfold mF1 at h4
      split at h4
      · exact h4
      · omega
    · split
      · rename_i h4 h5
        have h6 : st + 1 < ms := by
          unfold mF2 at h5
          split at h5
          · rename_i h7
            rw [Bool.and_eq_true, decide_eq_true_eq] at h7
            exact h7.1
          · omega
        refine ⟨by omega, by omega, h6, Nat.sub_le _ _, ?_⟩
        unfold mF2 at h5
        split at h5
        · exact h5
        · omega
      · obtain ⟨a1, a2, a3, a4, a5⟩ := ih (nx + 1) (Lf - mF1 b g ev ms fi e1 st nx - mF2 b g ev ms fi e1 st nx) (by omega) (by omega) (by omega)
        exact ⟨by omega, a2, a3, by omega, a5⟩
set_option maxHeartbeats 4000000 in
set_option maxRecDepth 100000 in
theorem lM_out (l : Launch) (dC : Nat → ClassId) (dI : Nat → Nat → Nat) (r : Nat → Nat) (cI cZ cG : ClassId) (b : Nat → Nat → Int32) (g : Nat → Int32) {p : Program} {e : Env} {s : State} {m : MethodId} {args : Array Value} {below : List Frame} {meth : Method} {c : Code} {Q : State → Prop} {A : Nat → Prop} (ev ms fi e1 st : Nat) (kv : Int32) (hev : ev ≤ 400) (hg1 : g 1 = nI ev) (h0 : 1 ≤ ms) (hm : ms ≤ 5) (hg4 : g 4 = nI ms) (hfi : fi ≤ e1) (he : e1 < ev) (hbs : ev - 16 ≤ e1) (hst : st < ms) {cells slots : Nat} (hcs : cells ≤ 0 ∧ slots ≤ 0) (hx : p.tables.exec = Jvm.exec) (hb : c.code = cM_find) (hml : c.maxLocals = 12) (hown : s.vm.findClass "EventPatternsModel" = some m.cls) (hbw : ∀ w ∈ bw, w.before args s = true) (hK : va_K (dC, dI) cls2 (xt cI cZ cG) s) (hA : ∀ q : Nat, s.heap.size ≤ q → A q) (lf nx s2 : Nat) (y : Nat → Int32) (H : Heap) (locs : List Loc) (ls : Array Slot) (hl : lv_has ls 12 [(2, .int (nI (lf))), (7, .int (nI (nx))), (8, .int (nI (s2))), (9, .int (1)), (0, .ref (r 0)), (1, .int (kv)), (3, .int (nI (fi))), (5, .int (nI (e1))), (6, .int (nI (st)))])
    (kk : lv_has ls 12 [(2, .int (nI (lf))), (7, .int (nI (nx))), (8, .int (nI (s2))), (0, .ref (r 0)), (1, .int (kv)), (3, .int (nI (fi))), (5, .int (nI (e1))), (6, .int (nI (st)))] → W p l e ({ frames := 2, cells := 0, slots := 0, locals := 57 }) s m args below meth c H locs cells slots Q (F0 m 331 ls [])) : W p l e ({ frames := 2, cells := 0, slots := 0, locals := 57 }) s m args below meth c H locs cells slots Q (F0 m 176 ls []) := by
  refine lv_iload hx hb dM_find_176 (lv_at hl 3 rfl) ?_
  refine lv_if_ne (tgt := 331) hx hb dM_find_178 (by decide) (fun _ => ?_) (fun c9 => absurd c9 (by decide))
  exact kk (lv_sub hl [0, 1, 2, 4, 5, 6, 7, 8] rfl)
set_option maxHeartbeats 4000000 in
set_option maxRecDepth 100000 in
theorem lM_pick (l : Launch) (dC : Nat → ClassId) (dI : Nat → Nat → Nat) (r : Nat → Nat) (cI cZ cG : ClassId) (b : Nat → Nat → Int32) (g : Nat → Int32) {p : Program} {e : Env} {s : State} {m : MethodId} {args : Array Value} {below : List Frame} {meth : Method} {c : Code} {Q : State → Prop} {A : Nat → Prop} (ev ms fi e1 st : Nat) (kv : Int32) (hev : ev ≤ 400) (hg1 : g 1 = nI ev) (h0 : 1 ≤ ms) (hm : ms ≤ 5) (hg4 : g 4 = nI ms) (hfi : fi ≤ e1) (he : e1 < ev) (hbs : ev - 16 ≤ e1) (hst : st < ms) {cells slots : Nat} (hcs : cells ≤ 0 ∧ slots ≤ 0) (hx : p.tables.exec = Jvm.exec) (hb : c.code = cM_find) (hml : c.maxLocals = 12) (hown : s.vm.findClass "EventPatternsModel" = some m.cls) (hbw : ∀ w ∈ bw, w.before args s = true) (hK : va_K (dC, dI) cls2 (xt cI cZ cG) s) (hA : ∀ q : Nat, s.heap.size ≤ q → A q) :
    ∀ (k nx Lf : Nat) (y : Nat → Int32) (H : Heap) (locs : List Loc) (ls : Array Slot), nx + k = ev → e1 < nx → Lf < mRest b g ev ms fi e1 st k nx → Lf < 2 ^ 31 → lv_has ls 12 [(2, .int (nI (Lf))), (7, .int (nI (nx))), (8, .int (nI (st))), (9, .int (0)), (0, .ref (r 0)), (1, .int (kv)), (3, .int (nI (fi))), (5, .int (nI (e1))), (6, .int (nI (st)))] → va_P (dC, dI) cls2 (mw r cI cZ (va_up b 7 (y)) g) H → va_D A (mw r cI cZ (va_up b 7 (y)) g) → va_S A s.heap H locs →
      (∀ (y : Nat → Int32) (H : Heap) (locs : List Loc) (ls : Array Slot), lv_has ls 12 [(2, .int (nI ((mPick b g ev ms fi e1 st k nx Lf).2.2))), (7, .int (nI ((mPick b g ev ms fi e1 st k nx Lf).1))), (8, .int (nI ((mPick b g ev ms fi e1 st k nx Lf).2.1))), (0, .ref (r 0)), (1, .int (kv)), (3, .int (nI (fi))), (5, .int (nI (e1))), (6, .int (nI (st)))] → va_P (dC, dI) cls2 (mw r cI cZ (va_up b 7 (y)) g) H → va_D A (mw r cI cZ (va_up b 7 (y)) g) → va_S A s.heap H locs → W p l e ({ frames := 2, cells := 0, slots := 0, locals := 57 }) s m args below meth c H locs cells slots Q (F0 m 331 ls [])) → W p l e ({ frames := 2, cells := 0, slots := 0, locals := 57 }) s m args below meth c H locs cells slots Q (F0 m 176 ls []) := by
  intro k
  induction k with
  | zero => intro nx Lf y H locs ls h1 h2 h3; rw [mRest] at h3; omega
  | succ k ih =>
    intro nx Lf y H locs ls h1 h2 h3 h4 hl hP hD hS kk
    rw [mRest] at h3
    refine lM_P1 l dC dI r cI cZ cG b g ev ms fi e1 st kv hev hg1 h0 hm hg4 hfi he hbs hst hcs hx hb hml hown hbw hK hA nx Lf h2 (by omega) h4 y H locs ls hl hP hD hS (fun c1 y H locs ls hl hP hD hS => ?_) (fun c1 y H locs ls hl hP hD hS => ?_)
    · rw [mPick, if_pos c1] at kk
      exact lM_out l dC dI r cI cZ cG b g ev ms fi e1 st kv hev hg1 h0 hm hg4 hfi he hbs hst hcs hx hb hml hown hbw hK hA _ _ _ y H locs ls hl (fun hl => kk y H locs ls hl hP hD hS)
    · refine lM_P2 l dC dI r cI cZ cG b g ev ms fi e1 st kv hev hg1 h0 hm hg4 hfi he hbs hst hcs hx hb hml hown hbw hK hA nx _ h2 (by omega) (by omega) y H locs ls hl hP hD hS (fun c2 y H locs ls hl hP hD hS => ?_) (fun c2 y H locs ls hl hP hD hS => ?_)
      · rw [mPick, if_neg (by omega), if_pos c2] at kk
        exact lM_out l dC dI r cI cZ cG b g ev ms fi e1 st kv hev hg1 h0 hm hg4 hfi he hbs hst hcs hx hb hml hown hbw hK hA _ _ _ y H locs ls hl (fun hl => kk y H locs ls hl hP hD hS)
      · rw [mPick, if_neg (by omega), if_neg (by omega)] at kk
        exact ih (nx + 1) _ y H locs ls (by omega) (by omega) (by omega) (by omega) hl hP hD hS kk
