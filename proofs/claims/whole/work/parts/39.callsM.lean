/-! THE REFERENCE: length, match -/
theorem mSel_ok {b : Nat → Nat → Int32} {g : Nat → Int32} {ev ms : Nat} : ∀ (k fi Lf : Nat), fi + k = ev → ∀ fi2 Lf2, mSel b g ev ms k fi Lf = some (fi2, Lf2) → fi ≤ fi2 ∧ fi2 < ev ∧ Lf2 ≤ Lf ∧ Lf2 < gF b g ev ms false fi2 := by
  intro k
  induction k with
  | zero => intro fi Lf h fi2 Lf2 h2; cases h2
  | succ k ih =>
    intro fi Lf h fi2 Lf2 h2
    rw [mSel] at h2
    split at h2
    · rename_i h3; cases h2; exact ⟨Nat.le_refl _, by omega, Nat.le_refl _, h3⟩
    · obtain ⟨q1, q2, q3, q4⟩ := ih (fi + 1) _ (by omega) fi2 Lf2 h2
      exact ⟨by omega, q2, by omega, q4⟩
theorem mAdd_lo {b : Nat → Nat → Int32} {L e st i : Nat} (h : i ≤ 6) : mAdd b L e st i = b i := by
  unfold mAdd
  rw [va_up_ne _ _ (by omega), va_up_ne _ _ (by omega)]
theorem mPathL_fr {ev ms fi : Nat} (hm : ms ≤ 5) (hbf : ev - 16 ≤ fi) : ∀ (k e1 st Lf L : Nat) (b : Nat → Nat → Int32) (g : Nat → Int32), g 5 = nI L → (g 2 = 0 ∨ g 2 = 1) → ev ≤ e1 + k → fi ≤ e1 → e1 < ev → st < ms → L + fi ≤ e1 + 1 → Lf < gW b g ev ms fi false (e1 - (ev - 16)) st →
    (∀ i, i ≤ 6 → (mPathL ev ms fi (k + 1) e1 st Lf L b g).1 i = b i) ∧ (∀ i, i ≠ 5 → (mPathL ev ms fi (k + 1) e1 st Lf L b g).2 i = g i) ∧ ∃ L', L ≤ L' ∧ L' ≤ 16 ∧ (mPathL ev ms fi (k + 1) e1 st Lf L b g).2 5 = nI L' := by
  intro k
  induction k with
  | zero => intro e1 st Lf L b g h5 hsy hk hfe he; omega
  | succ k ih =>
    intro e1 st Lf L b g h5 hsy hk hfe he hst hL hLf
    rw [gW_rest (b := b) (g := g) (fi := fi) (by omega) he hst hm hsy] at hLf
    rw [mPathL]
    split
    · rename_i hc
      obtain ⟨p1, p2, p3, p4, p5⟩ := mPick_ok (b := b) (g := g) (ev := ev) (ms := ms) (fi := fi) (e1 := e1) (st := st) hst (ev - (e1 + 1)) (e1 + 1) (if st + 1 = ms then Lf - 1 else Lf) (by omega) (by omega) (by split at hLf <;> split <;> omega)
      generalize mPick b g ev ms fi e1 st (ev - (e1 + 1)) (e1 + 1) (if st + 1 = ms then Lf - 1 else Lf) = qq at p1 p2 p3 p4 p5 ⊢
      unfold mStep
      obtain ⟨i1, i2, L', i3, i4, i5⟩ := ih qq.1 qq.2.1 qq.2.2 (L + 1) (mAdd b L qq.1 qq.2.1) (va_up g 5 (nI (L + 1))) rfl hsy (by omega) (by omega) (by omega) p3 (by omega) (by rw [gW_c (b := b) (b2 := mAdd b L qq.1 qq.2.1) (g := g) (g2 := va_up g 5 (nI (L + 1))) (fun i hi => mAdd_lo hi) rfl rfl]; exact p5)
      exact ⟨fun i hi => (i1 i hi).trans (mAdd_lo hi), fun i hi => (i2 i hi).trans (va_up_ne _ _ hi), L', by omega, i4, i5⟩
    · exact ⟨fun _ _ => rfl, fun _ _ => rfl, L, Nat.le_refl _, by omega, h5⟩
theorem gF_some {b : Nat → Nat → Int32} {g : Nat → Int32} {ev ms fi Lf : Nat} (h : Lf < gF b g ev ms false fi) : mFit0 b g fi 0 fi = true ∧ Lf < gW b g ev ms fi false (fi - (ev - 16)) 0 := by
  unfold gF at h
  split at h
  · rename_i h1; exact ⟨h1, h⟩
  · omega
theorem mFnd_ok {b : Nat → Nat → Int32} {g : Nat → Int32} {ev ms : Nat} {kv : Int32} {fi Lf : Nat} (h : mFnd b g ev ms kv = some (fi, Lf)) : ev - 16 ≤ fi ∧ fi < ev ∧ Lf < gF b g ev ms false fi := by
  unfold mFnd at h
  split at h
  · cases h
  · obtain ⟨q1, q2, q3, q4⟩ := mSel_ok (ev - (ev - 16)) (ev - 16) _ (by omega) fi Lf h
    exact ⟨q1, q2, q4⟩
theorem mPath_fr {b : Nat → Nat → Int32} {g : Nat → Int32} {ev ms fi Lf : Nat} (h0 : 1 ≤ ms) (hm : ms ≤ 5) (hsy : g 2 = 0 ∨ g 2 = 1) (h1 : ev - 16 ≤ fi) (h2 : fi < ev) (h3 : Lf < gF b g ev ms false fi) :
    (∀ i, i ≤ 6 → (mPath b g ev ms fi Lf).1 i = b i) ∧ (∀ i, i ≠ 5 → (mPath b g ev ms fi Lf).2 i = g i) ∧ ∃ L', 1 ≤ L' ∧ L' ≤ 16 ∧ (mPath b g ev ms fi Lf).2 5 = nI L' := by
  obtain ⟨-, q⟩ := gF_some h3
  obtain ⟨i1, i2, i3⟩ := mPathL_fr hm h1 ev fi 0 Lf 1 (mAdd b 0 fi 0) (va_up (va_up g 5 0) 5 (nI (0 + 1))) rfl hsy (by omega) (by omega) h2 (by omega) (by omega) (by rw [gW_c (b := b) (b2 := mAdd b 0 fi 0) (g := g) (g2 := va_up (va_up g 5 0) 5 (nI (0 + 1))) (fun i hi => mAdd_lo hi) rfl rfl]; exact q)
  exact ⟨fun i hi => (i1 i hi).trans (mAdd_lo hi), fun i hi => (i2 i hi).trans ((va_up_ne _ _ hi).trans (va_up_ne _ _ hi)), i3⟩
theorem iIn_f {ix : Int32} {L : Nat} (h1 : 1 ≤ L) (h2 : L ≤ 16) (h : iIn ix 0 (nI (L - 1)) = false) : ix < 0 ∨ nI L ≤ ix := by
  rcases pk_ix ix (n := L) (by omega) with h9 | h9 | ⟨j, h9, rfl⟩
  · exact Or.inl h9
  · exact Or.inr h9
  · exfalso
    rw [iIn, decide_eq_false (nI_pos (by omega)), decide_eq_false (nI_nlt (by omega) (by omega))] at h
    cases h
theorem iIn_t {ix : Int32} {L : Nat} (h1 : 1 ≤ L) (h2 : L ≤ 16) (h : iIn ix 0 (nI (L - 1)) = true) : ∃ j, j < L ∧ ix = nI j := by
  rcases pk_ix ix (n := L) (by omega) with h9 | h9 | h9
  · exfalso
    rw [iIn, decide_eq_true h9] at h
    cases h
  · exfalso
    have h8 : nI (L - 1) < ix := Int32.lt_of_lt_of_le (nI_lt (by omega) (by omega)) h9
    rw [iIn, decide_eq_true h8, Bool.and_comm] at h
    cases h
  · exact h9
theorem iIn_01 {wh : Int32} (h : iIn wh 0 1 = true) : wh = 0 ∨ ¬ wh = 0 ∧ wh = 1 := by
  obtain ⟨j, h1, rfl⟩ := iIn_t (L := 2) (by omega) (by omega) h
  rcases j with _ | _ | j
  · exact Or.inl rfl
  · exact Or.inr ⟨by decide, rfl⟩
  · omega
theorem iIn_n01 {wh : Int32} (h : iIn wh 0 1 = false) : ¬ wh = 0 ∧ ¬ wh = 1 := by
  constructor
  · intro e; subst e; revert h; decide
  · intro e; subst e; revert h; decide
set_option maxHeartbeats 4000000 in
set_option maxRecDepth 100000 in
/-- length(k) -/
theorem tM_length (l : Launch) (dC : Nat → ClassId) (dI : Nat → Nat → Nat) (r : Nat → Nat) (cI cZ cG : ClassId) (b : Nat → Nat → Int32) (g : Nat → Int32) (sz : Nat) (ev ms : Nat) (kv : Int32) (hev : ev ≤ 400) (hg1 : g 1 = nI ev) (hm : ms ≤ 5) (hg4 : g 4 = nI ms) (hsy : g 2 = 0 ∨ g 2 = 1)  : Met l yM_length wM_length ({ frames := 3, cells := 0, slots := 0, locals := 88 }) (va_Pc [.ref (r 0), .int (kv)] (fun U => U.heap.size = sz ∧ va_P (dC, dI) cls2 (mw r cI cZ b g) U.heap ∧ va_K (dC, dI) cls2 (xt cI cZ cG) U ∧ va_D (fun _ => True) (mw r cI cZ b g))) (va_Qi (fun (r0 : Int32) (u : MS) => (ms = 0 → u = (b, va_up g 0 (nI 1))) ∧ (1 ≤ ms → mFnd b g ev ms kv = none → ∃ y : Nat → Int32, u = (va_up b 7 y, va_up (va_up g 5 0) 0 (nI 2))) ∧ (1 ≤ ms → ∀ fi Lf : Nat, mFnd b g ev ms kv = some (fi, Lf) → r0 = (mPath b g ev ms fi Lf).2 5 ∧ ∃ y : Nat → Int32, u = (va_up (mPath b g ev ms fi Lf).1 7 y, va_up (mPath b g ev ms fi Lf).2 0 (nI 0)))) (atM dC dI r cI cZ cG (va_A (mw r cI cZ b g) sz)) (va_A (mw r cI cZ b g) sz)) 0 0 (va_A (mw r cI cZ b g) sz) := by
  refine Met.ofW (cc := cM_length) (maxL := 4) (ret := (some .int)) (by decide) rfl ?_
  intro p e s m args below meth c s₁ B hml hv
  obtain ⟨rfl, hsz, hP, hK, hD0⟩ := hv
  have hx := B.exec
  have hb := B.bytes
  have hr := B.returns
  have hbw : ∀ w ∈ bw, w.before _ s = true := fun w h => atoms_spec (ws := wM_length) B.pre w (List.mem_cons_of_mem _ h)
  have hown : s.vm.findClass "EventPatternsModel" = some m.cls := findClass_of_methodNamed B.named
  have hlocks := B.notSynchronized
  subst hsz
  have hD := hD0.self (sz := s.heap.size)
  generalize hAe : va_A (mw r cI cZ b g) s.heap.size = A at hD ⊢
  have hA : ∀ q : Nat, s.heap.size ≤ q → A q := fun q h => by rw [← hAe]; exact Or.inr h
  have hS : va_S A s.heap s.heap [] := va_S.rf
  have hl := lv_entry ([.ref (r 0), .int (kv)]) (n := 4) (Nat.le_of_ble_eq_true rfl)
  rw [lg_entry_eq]
  generalize (lg_sl ([.ref (r 0), .int (kv)]) ++ List.replicate (4 - (lg_sl ([.ref (r 0), .int (kv)])).length) Slot.unset).toArray = ls at hl ⊢
  have hl : lv_has ls 4 [(0, .ref (r 0)), (1, .int (kv))] := hl
  refine lv_aload_n hx hb dM_length_0 rfl (lv_at hl 0 rfl) ?_
  refine va_get (D := (dC, dI)) (ci := 1) (v := .int (nI (ms))) (C := "EventPatternsModel") (T := TM) (N := 16) hx hb hbw inM hown hK hP 0 rfl rfl 7 (by decide) (hbw _ kf_M_63) (fun _ h9 => h9) (congrArg (fun z => some (Value.int z)) (hg4)) dM_length_1 ?_
  refine nr_if_le (tgt := 11) hx hb (a1 := ms) (by omega) dM_length_4 (by decide) (fun c_4 => ?_) (fun c_4 => ?_)
  · refine lv_iconst (v := 0) hx hb dM_length_11 (by decide) ?_
    refine lv_istore_n (lv' := [(2, .int (0)), (0, .ref (r 0)), (1, .int (kv))]) hx hb dM_length_12 rfl hl (by decide) rfl (fun ls hl => ?_)
    refine lv_iload_n hx hb dM_length_13 rfl (lv_at hl 0 rfl) ?_
    refine lv_if_eq (tgt := 29) hx hb dM_length_14 (by decide) (fun _ => ?_) (fun c9 => absurd c9 (by decide))
    refine lv_iconst (v := 0) hx hb dM_length_29 (by decide) ?_
    refine lv_istore_n (lv' := [(3, .int (0)), (2, .int (0)), (0, .ref (r 0)), (1, .int (kv))]) hx hb dM_length_30 rfl hl (by decide) rfl (fun ls hl => ?_)
    refine lv_aload_n hx hb dM_length_31 rfl (lv_at hl 2 rfl) ?_
    refine lv_iload_n hx hb dM_length_32 rfl (lv_at hl 1 rfl) ?_
    refine lv_if_ne (tgt := 40) hx hb dM_length_33 (by decide) (fun c9 => absurd c9 (by decide)) (fun _ => ?_)
    refine lv_iconst (v := 1) hx hb dM_length_36 (by decide) ?_
    refine lv_goto (tgt := 41) hx hb dM_length_37 (by decide) ?_
    refine lv_iload_n hx hb dM_length_41 rfl (lv_at hl 1 rfl) ?_
    refine lv_if_eq (tgt := 53) hx hb dM_length_42 (by decide) (fun _ => ?_) (fun c9 => absurd c9 (by decide))
    refine lv_iconst (v := 0) hx hb dM_length_53 (by decide) ?_
    refine lv_iconst (v := 0) hx hb dM_length_54 (by decide) ?_
    have hFc := va_free (wc := mw r cI cZ (b) (g)) hD hS hA (List.range 11) rfl
    refine va_calli (va_runV (As := [.int (1), .int (0), .int (0)]) (rest := []) ⟨hx, hb, hml, hown, hbw⟩ (tM_refuse l dC dI r cI cZ cG (b) (g) s.heap.size true false false) (cwV 3 hbw (bw_V km_M_53 ki_yM_refuse ksel_yM_refuse ki_EventPatternsModel kcM_refuse) rfl rfl rfl (by decide +kernel) ⟨Nat.le_of_ble_eq_true rfl, Nat.le_of_ble_eq_true rfl⟩) ⟨fun a U g mk q => by obtain ⟨q0, q1, qP, qK, qD⟩ := q; exact ⟨q0, q1, qP, va_K.moved (u := U) (U := U.calling g mk a) (Vm.Alike.refl U.vm) qK, qD⟩, va_recv hK hP (ci := 1) (q0 := 0) rfl rfl, fun U hU hW => ⟨rfl, by rw [hU], by rw [hU]; exact hP, va_K.moved hW.alike hK, hD.weaken (fun _ _ _ _ => trivial)⟩⟩ rfl rfl hl.1 rfl (lv_room (Nat.le_of_ble_eq_true rfl)) dM_length_55 ⟨Nat.le_of_ble_eq_true rfl, Nat.le_of_ble_eq_true rfl⟩) hS (fun q _ h => hFc q h) hFc (fun r_55 u t H1 locs ht hvm hq hB hz1 hk1 hS => ?_)
    obtain ⟨hq1, hq⟩ := hq
    have hq1 : r_55 = 1 := hq1
    subst hq1
    obtain rfl := hq
    obtain ⟨hP1, hK1, hD1⟩ := hB
    rw [ht] at hP1
    have hP : va_P (dC, dI) cls2 (mw r cI cZ (b) (va_up (g) 0 (nI (mTh true false false)))) H1 := hP1
    have hD : va_D A (mw r cI cZ (b) (va_up (g) 0 (nI (mTh true false false)))) := hD1.weaken (fun _ _ _ h => hFc _ h)
    generalize H1 = H at hP hS ⊢
    refine lv_if_eq (tgt := 65) hx hb dM_length_58 (by decide) (fun c9 => absurd c9 (by decide)) (fun _ => ?_)
    refine lv_iconst (v := 0) hx hb dM_length_61 (by decide) ?_
    refine lv_goto (tgt := 69) hx hb dM_length_62 (by decide) ?_
    exact W.iret (v := 0) hx hb hr (fun t ht hW => ⟨⟨0, (b, va_up g 0 (nI 1)), rfl, ⟨fun _ => rfl, fun h9 => absurd h9 (by omega), fun h9 => absurd h9 (by omega)⟩, by rw [ht]; exact hP, va_K.moved hW.alike hK, hD⟩, hS.F ht⟩) hS.2.2 dM_length_69
  · refine lv_iconst (v := 1) hx hb dM_length_7 (by decide) ?_
    refine lv_goto (tgt := 12) hx hb dM_length_8 (by decide) ?_
    refine lv_istore_n (lv' := [(2, .int (1)), (0, .ref (r 0)), (1, .int (kv))]) hx hb dM_length_12 rfl hl (by decide) rfl (fun ls hl => ?_)
    refine lv_iload_n hx hb dM_length_13 rfl (lv_at hl 0 rfl) ?_
    refine lv_if_eq (tgt := 29) hx hb dM_length_14 (by decide) (fun c9 => absurd c9 (by decide)) (fun _ => ?_)
    refine lv_aload_n hx hb dM_length_17 rfl (lv_at hl 1 rfl) ?_
    refine lv_iload_n hx hb dM_length_18 rfl (lv_at hl 2 rfl) ?_
    have hFc := va_free (wc := mw r cI cZ (b) (g)) hD hS hA (List.range 11) rfl
    refine va_calli (va_runV (As := [.int (kv)]) (rest := []) ⟨hx, hb, hml, hown, hbw⟩ (tM_find l dC dI r cI cZ cG (b) (g) s.heap.size ev ms kv hev hg1 (by omega) hm hg4 hsy) (cwV 1 hbw (bw_V km_M_89 ki_yM_find ksel_yM_find ki_EventPatternsModel kcM_find) rfl rfl rfl (by decide +kernel) ⟨Nat.le_of_ble_eq_true rfl, Nat.le_of_ble_eq_true rfl⟩) ⟨fun a U g mk q => by obtain ⟨q0, q1, qP, qK, qD⟩ := q; exact ⟨q0, q1, qP, va_K.moved (u := U) (U := U.calling g mk a) (Vm.Alike.refl U.vm) qK, qD⟩, va_recv hK hP (ci := 1) (q0 := 0) rfl rfl, fun U hU hW => ⟨rfl, by rw [hU], by rw [hU]; exact hP, va_K.moved hW.alike hK, hD.weaken (fun _ _ _ _ => trivial)⟩⟩ rfl rfl hl.1 rfl (lv_room (Nat.le_of_ble_eq_true rfl)) dM_length_19 ⟨Nat.le_of_ble_eq_true rfl, Nat.le_of_ble_eq_true rfl⟩) hS (fun q _ h => hFc q h) hFc (fun r_19 u t H1 locs ht hvm hq hB hz1 hk1 hS => ?_)
    obtain ⟨hq1, hq2⟩ := hq
    rcases hF : mFnd b g ev ms kv with _ | ⟨fi, Lf⟩
    · obtain ⟨hq3, y, hq⟩ := hq1 hF
      have hq3 : r_19 = 0 := hq3
      subst hq3
      obtain rfl := hq
      obtain ⟨hP1, hK1, hD1⟩ := hB
      rw [ht] at hP1
      have hP : va_P (dC, dI) cls2 (mw r cI cZ (va_up b 7 y) (va_up g 5 0)) H1 := hP1
      have hD : va_D A (mw r cI cZ (va_up b 7 y) (va_up g 5 0)) := hD1.weaken (fun _ _ _ h => hFc _ h)
      generalize H1 = H at hP hS ⊢
      refine lv_if_eq (tgt := 29) hx hb dM_length_22 (by decide) (fun _ => ?_) (fun c9 => absurd c9 (by decide))
      refine lv_iconst (v := 0) hx hb dM_length_29 (by decide) ?_
      refine lv_istore_n (lv' := [(3, .int (0)), (2, .int (1)), (0, .ref (r 0)), (1, .int (kv))]) hx hb dM_length_30 rfl hl (by decide) rfl (fun ls hl => ?_)
      refine lv_aload_n hx hb dM_length_31 rfl (lv_at hl 2 rfl) ?_
      refine lv_iload_n hx hb dM_length_32 rfl (lv_at hl 1 rfl) ?_
      refine lv_if_ne (tgt := 40) hx hb dM_length_33 (by decide) (fun _ => ?_) (fun c9 => absurd c9 (by decide))
      refine lv_iconst (v := 0) hx hb dM_length_40 (by decide) ?_
      refine lv_iload_n hx hb dM_length_41 rfl (lv_at hl 1 rfl) ?_
      refine lv_if_eq (tgt := 53) hx hb dM_length_42 (by decide) (fun c9 => absurd c9 (by decide)) (fun _ => ?_)
      refine lv_iload_n hx hb dM_length_45 rfl (lv_at hl 0 rfl) ?_
      refine lv_if_ne (tgt := 53) hx hb dM_length_46 (by decide) (fun c9 => absurd c9 (by decide)) (fun _ => ?_)
      refine lv_iconst (v := 1) hx hb dM_length_49 (by decide) ?_
      refine lv_goto (tgt := 54) hx hb dM_length_50 (by decide) ?_
      refine lv_iconst (v := 0) hx hb dM_length_54 (by decide) ?_
      have hFc := va_free (wc := mw r cI cZ (va_up b 7 y) (va_up g 5 0)) hD hS hA (List.range 11) rfl
      refine va_calli (va_runV (As := [.int (0), .int (1), .int (0)]) (rest := []) ⟨hx, hb, hml, hown, hbw⟩ (tM_refuse l dC dI r cI cZ cG (va_up b 7 y) (va_up g 5 0) H.size false true false) (cwV 3 hbw (bw_V km_M_53 ki_yM_refuse ksel_yM_refuse ki_EventPatternsModel kcM_refuse) rfl rfl rfl (by decide +kernel) ⟨Nat.le_of_ble_eq_true rfl, Nat.le_of_ble_eq_true rfl⟩) ⟨fun a U g mk q => by obtain ⟨q0, q1, qP, qK, qD⟩ := q; exact ⟨q0, q1, qP, va_K.moved (u := U) (U := U.calling g mk a) (Vm.Alike.refl U.vm) qK, qD⟩, va_recv hK hP (ci := 1) (q0 := 0) rfl rfl, fun U hU hW => ⟨rfl, by rw [hU], by rw [hU]; exact hP, va_K.moved hW.alike hK, hD.weaken (fun _ _ _ _ => trivial)⟩⟩ rfl rfl hl.1 rfl (lv_room (Nat.le_of_ble_eq_true rfl)) dM_length_55 ⟨Nat.le_of_ble_eq_true rfl, Nat.le_of_ble_eq_true rfl⟩) hS (fun q _ h => hFc q h) hFc (fun r_55 u t H1 locs ht hvm hq hB hz1 hk1 hS => ?_)
      obtain ⟨hq1, hq⟩ := hq
      have hq1 : r_55 = 1 := hq1
      subst hq1
      obtain rfl := hq
      obtain ⟨hP1, hK1, hD1⟩ := hB
      rw [ht] at hP1
      have hP : va_P (dC, dI) cls2 (mw r cI cZ (va_up b 7 y) (va_up (va_up g 5 0) 0 (nI (mTh false true false)))) H1 := hP1
      have hD : va_D A (mw r cI cZ (va_up b 7 y) (va_up (va_up g 5 0) 0 (nI (mTh false true false)))) := hD1.weaken (fun _ _ _ h => hFc _ h)
      generalize H1 = H at hP hS ⊢
      refine lv_if_eq (tgt := 65) hx hb dM_length_58 (by decide) (fun c9 => absurd c9 (by decide)) (fun _ => ?_)
      refine lv_iconst (v := 0) hx hb dM_length_61 (by decide) ?_
      refine lv_goto (tgt := 69) hx hb dM_length_62 (by decide) ?_
      exact W.iret (v := 0) hx hb hr (fun t ht hW => ⟨⟨0, (va_up b 7 y, va_up (va_up g 5 0) 0 (nI 2)), rfl, ⟨fun h9 => absurd h9 (by omega), fun _ _ => ⟨y, rfl⟩, fun _ fi2 Lf2 h8 => by cases h8⟩, by rw [ht]; exact hP, va_K.moved hW.alike hK, hD⟩, hS.F ht⟩) hS.2.2 dM_length_69
    obtain ⟨hq3, y, hq⟩ := hq2 fi Lf hF
    have hq3 : r_19 = 1 := hq3
    subst hq3
    obtain rfl := hq
    obtain ⟨hP1, hK1, hD1⟩ := hB
    rw [ht] at hP1
    have hP : va_P (dC, dI) cls2 (mw r cI cZ (va_up (mPath b g ev ms fi Lf).1 7 y) ((mPath b g ev ms fi Lf).2)) H1 := hP1
    have hD : va_D A (mw r cI cZ (va_up (mPath b g ev ms fi Lf).1 7 y) ((mPath b g ev ms fi Lf).2)) := hD1.weaken (fun _ _ _ h => hFc _ h)
    generalize H1 = H at hP hS ⊢
    obtain ⟨z1, z2, z3⟩ := mFnd_ok hF
    obtain ⟨fr1, fr2, L, hL1, hL2, hf5⟩ := mPath_fr (by omega) hm hsy z1 z2 z3
    refine lv_if_eq (tgt := 29) hx hb dM_length_22 (by decide) (fun c9 => absurd c9 (by decide)) (fun _ => ?_)
    refine lv_iconst (v := 1) hx hb dM_length_25 (by decide) ?_
    refine lv_goto (tgt := 30) hx hb dM_length_26 (by decide) ?_
    refine lv_istore_n (lv' := [(3, .int (1)), (2, .int (1)), (0, .ref (r 0)), (1, .int (kv))]) hx hb dM_length_30 rfl hl (by decide) rfl (fun ls hl => ?_)
    refine lv_aload_n hx hb dM_length_31 rfl (lv_at hl 2 rfl) ?_
    refine lv_iload_n hx hb dM_length_32 rfl (lv_at hl 1 rfl) ?_
    refine lv_if_ne (tgt := 40) hx hb dM_length_33 (by decide) (fun _ => ?_) (fun c9 => absurd c9 (by decide))
    refine lv_iconst (v := 0) hx hb dM_length_40 (by decide) ?_
    refine lv_iload_n hx hb dM_length_41 rfl (lv_at hl 1 rfl) ?_
    refine lv_if_eq (tgt := 53) hx hb dM_length_42 (by decide) (fun c9 => absurd c9 (by decide)) (fun _ => ?_)
    refine lv_iload_n hx hb dM_length_45 rfl (lv_at hl 0 rfl) ?_
    refine lv_if_ne (tgt := 53) hx hb dM_length_46 (by decide) (fun _ => ?_) (fun c9 => absurd c9 (by decide))
    refine lv_iconst (v := 0) hx hb dM_length_53 (by decide) ?_
    refine lv_iconst (v := 0) hx hb dM_length_54 (by decide) ?_
    have hFc := va_free (wc := mw r cI cZ (va_up (mPath b g ev ms fi Lf).1 7 y) ((mPath b g ev ms fi Lf).2)) hD hS hA (List.range 11) rfl
    refine va_calli (va_runV (As := [.int (0), .int (0), .int (0)]) (rest := []) ⟨hx, hb, hml, hown, hbw⟩ (tM_refuse l dC dI r cI cZ cG (va_up (mPath b g ev ms fi Lf).1 7 y) ((mPath b g ev ms fi Lf).2) H.size false false false) (cwV 3 hbw (bw_V km_M_53 ki_yM_refuse ksel_yM_refuse ki_EventPatternsModel kcM_refuse) rfl rfl rfl (by decide +kernel) ⟨Nat.le_of_ble_eq_true rfl, Nat.le_of_ble_eq_true rfl⟩) ⟨fun a U g mk q => by obtain ⟨q0, q1, qP, qK, qD⟩ := q; exact ⟨q0, q1, qP, va_K.moved (u := U) (U := U.calling g mk a) (Vm.Alike.refl U.vm) qK, qD⟩, va_recv hK hP (ci := 1) (q0 := 0) rfl rfl, fun U hU hW => ⟨rfl, by rw [hU], by rw [hU]; exact hP, va_K.moved hW.alike hK, hD.weaken (fun _ _ _ _ => trivial)⟩⟩ rfl rfl hl.1 rfl (lv_room (Nat.le_of_ble_eq_true rfl)) dM_length_55 ⟨Nat.le_of_ble_eq_true rfl, Nat.le_of_ble_eq_true rfl⟩) hS (fun q _ h => hFc q h) hFc (fun r_55 u t H1 locs ht hvm hq hB hz1 hk1 hS => ?_)
    obtain ⟨hq1, hq⟩ := hq
    have hq1 : r_55 = 0 := hq1
    subst hq1
    obtain rfl := hq
    obtain ⟨hP1, hK1, hD1⟩ := hB
    rw [ht] at hP1
    have hP : va_P (dC, dI) cls2 (mw r cI cZ (va_up (mPath b g ev ms fi Lf).1 7 y) (va_up ((mPath b g ev ms fi Lf).2) 0 (nI (mTh false false false)))) H1 := hP1
    have hD : va_D A (mw r cI cZ (va_up (mPath b g ev ms fi Lf).1 7 y) (va_up ((mPath b g ev ms fi Lf).2) 0 (nI (mTh false false false)))) := hD1.weaken (fun _ _ _ h => hFc _ h)
    generalize H1 = H at hP hS ⊢
    refine lv_if_eq (tgt := 65) hx hb dM_length_58 (by decide) (fun _ => ?_) (fun c9 => absurd c9 (by decide))
    refine lv_aload_n hx hb dM_length_65 rfl (lv_at hl 2 rfl) ?_
    refine va_get (D := (dC, dI)) (ci := 1) (v := .int (nI (L))) (C := "EventPatternsModel") (T := TM) (N := 16) hx hb hbw inM hown hK hP 0 rfl rfl 13 (by decide) (hbw _ kf_M_82) (fun _ h9 => h9) (congrArg (fun z => some (Value.int z)) (hf5)) dM_length_66 ?_
    exact W.iret (v := nI (L)) hx hb hr (fun t ht hW => ⟨⟨nI (L), (va_up (mPath b g ev ms fi Lf).1 7 y, va_up (mPath b g ev ms fi Lf).2 0 (nI 0)), rfl, ⟨fun h9 => absurd h9 (by omega), fun _ h8 => (by cases h8), fun _ fi2 Lf2 h8 => by cases h8; exact ⟨hf5.symm, y, rfl⟩⟩, by rw [ht]; exact hP, va_K.moved hW.alike hK, hD⟩, hS.F ht⟩) hS.2.2 dM_length_69
set_option maxHeartbeats 4000000 in
set_option maxRecDepth 100000 in
/-- match(k, i, what) -/
theorem tM_match (l : Launch) (dC : Nat → ClassId) (dI : Nat → Nat → Nat) (r : Nat → Nat) (cI cZ cG : ClassId) (b : Nat → Nat → Int32) (g : Nat → Int32) (sz : Nat) (ev ms : Nat) (kv ix wh : Int32) (hev : ev ≤ 400) (hg1 : g 1 = nI ev) (hm : ms ≤ 5) (hg4 : g 4 = nI ms) (hsy : g 2 = 0 ∨ g 2 = 1)  : Met l yM_match wM_match ({ frames := 3, cells := 0, slots := 0, locals := 88 }) (va_Pc [.ref (r 0), .int (kv), .int (ix), .int (wh)] (fun U => U.heap.size = sz ∧ va_P (dC, dI) cls2 (mw r cI cZ b g) U.heap ∧ va_K (dC, dI) cls2 (xt cI cZ cG) U ∧ va_D (fun _ => True) (mw r cI cZ b g))) (va_Qi (fun (r0 : Int32) (u : MS) => (ms = 0 → u = (b, va_up g 0 (nI 1))) ∧ (1 ≤ ms → mFnd b g ev ms kv = none → ∃ y : Nat → Int32, u = (va_up b 7 y, va_up (va_up g 5 0) 0 (nI 2))) ∧ (1 ≤ ms → ∀ fi Lf : Nat, mFnd b g ev ms kv = some (fi, Lf) → ((ix < 0 ∨ (mPath b g ev ms fi Lf).2 5 ≤ ix) ∧ ∃ y : Nat → Int32, u = (va_up (mPath b g ev ms fi Lf).1 7 y, va_up (mPath b g ev ms fi Lf).2 0 (nI 2))) ∨ (¬ (ix < 0 ∨ (mPath b g ev ms fi Lf).2 5 ≤ ix) ∧ (¬ wh = 0 ∧ ¬ wh = 1) ∧ ∃ y : Nat → Int32, u = (va_up (mPath b g ev ms fi Lf).1 7 y, va_up (mPath b g ev ms fi Lf).2 0 (nI 3))) ∨ (¬ (ix < 0 ∨ (mPath b g ev ms fi Lf).2 5 ≤ ix) ∧ (wh = 0 ∨ ¬ wh = 0 ∧ wh = 1) ∧ r0 = (if wh = 0 then (mPath b g ev ms fi Lf).1 8 ix.toNatClampNeg else (mPath b g ev ms fi Lf).1 9 ix.toNatClampNeg) ∧ ∃ y : Nat → Int32, u = (va_up (mPath b g ev ms fi Lf).1 7 y, va_up (mPath b g ev ms fi Lf).2 0 (nI 0))))) (atM dC dI r cI cZ cG (va_A (mw r cI cZ b g) sz)) (va_A (mw r cI cZ b g) sz)) 0 0 (va_A (mw r cI cZ b g) sz) := by
  refine Met.ofW (cc := cM_match) (maxL := 6) (ret := (some .int)) (by decide) rfl ?_
  intro p e s m args below meth c s₁ B hml hv
  obtain ⟨rfl, hsz, hP, hK, hD0⟩ := hv
  have hx := B.exec
  have hb := B.bytes
  have hr := B.returns
  have hbw : ∀ w ∈ bw, w.before _ s = true := fun w h => atoms_spec (ws := wM_match) B.pre w (List.mem_cons_of_mem _ h)
  have hown : s.vm.findClass "EventPatternsModel" = some m.cls := findClass_of_methodNamed B.named
  have hlocks := B.notSynchronized
  subst hsz
  have hD := hD0.self (sz := s.heap.size)
  generalize hAe : va_A (mw r cI cZ b g) s.heap.size = A at hD ⊢
  have hA : ∀ q : Nat, s.heap.size ≤ q → A q := fun q h => by rw [← hAe]; exact Or.inr h
  have hS : va_S A s.heap s.heap [] := va_S.rf
  have hl := lv_entry ([.ref (r 0), .int (kv), .int (ix), .int (wh)]) (n := 6) (Nat.le_of_ble_eq_true rfl)
  rw [lg_entry_eq]
  generalize (lg_sl ([.ref (r 0), .int (kv), .int (ix), .int (wh)]) ++ List.replicate (6 - (lg_sl ([.ref (r 0), .int (kv), .int (ix), .int (wh)])).length) Slot.unset).toArray = ls at hl ⊢
  have hl : lv_has ls 6 [(0, .ref (r 0)), (1, .int (kv)), (2, .int (ix)), (3, .int (wh))] := hl
  refine lv_aload_n hx hb dM_match_0 rfl (lv_at hl 0 rfl) ?_
  refine va_get (D := (dC, dI)) (ci := 1) (v := .int (nI (ms))) (C := "EventPatternsModel") (T := TM) (N := 16) hx hb hbw inM hown hK hP 0 rfl rfl 7 (by decide) (hbw _ kf_M_63) (fun _ h9 => h9) (congrArg (fun z => some (Value.int z)) (hg4)) dM_match_1 ?_
  refine nr_if_le (tgt := 11) hx hb (a1 := ms) (by omega) dM_match_4 (by decide) (fun c_4 => ?_) (fun c_4 => ?_)
  · refine lv_iconst (v := 0) hx hb dM_match_11 (by decide) ?_
    refine lv_istore (lv' := [(4, .int (0)), (0, .ref (r 0)), (1, .int (kv)), (2, .int (ix)), (3, .int (wh))]) hx hb dM_match_12 hl (by decide) rfl (fun ls hl => ?_)
    refine lv_iload hx hb dM_match_14 (lv_at hl 0 rfl) ?_
    refine lv_if_eq (tgt := 45) hx hb dM_match_16 (by decide) (fun _ => ?_) (fun c9 => absurd c9 (by decide))
    refine lv_iconst (v := 0) hx hb dM_match_45 (by decide) ?_
    refine lv_istore (lv' := [(5, .int (0)), (4, .int (0)), (0, .ref (r 0)), (1, .int (kv)), (2, .int (ix)), (3, .int (wh))]) hx hb dM_match_46 hl (by decide) rfl (fun ls hl => ?_)
    refine lv_aload_n hx hb dM_match_48 rfl (lv_at hl 2 rfl) ?_
    refine lv_iload hx hb dM_match_49 (lv_at hl 1 rfl) ?_
    refine lv_if_ne (tgt := 58) hx hb dM_match_51 (by decide) (fun c9 => absurd c9 (by decide)) (fun _ => ?_)
    refine lv_iconst (v := 1) hx hb dM_match_54 (by decide) ?_
    refine lv_goto (tgt := 59) hx hb dM_match_55 (by decide) ?_
    refine lv_iload hx hb dM_match_59 (lv_at hl 1 rfl) ?_
    refine lv_if_eq (tgt := 73) hx hb dM_match_61 (by decide) (fun _ => ?_) (fun c9 => absurd c9 (by decide))
    refine lv_iconst (v := 0) hx hb dM_match_73 (by decide) ?_
    refine lv_iload hx hb dM_match_74 (lv_at hl 0 rfl) ?_
    refine lv_if_eq (tgt := 92) hx hb dM_match_76 (by decide) (fun _ => ?_) (fun c9 => absurd c9 (by decide))
    refine lv_iconst (v := 0) hx hb dM_match_92 (by decide) ?_
    have hFc := va_free (wc := mw r cI cZ (b) (g)) hD hS hA (List.range 11) rfl
    refine va_calli (va_runV (As := [.int (1), .int (0), .int (0)]) (rest := []) ⟨hx, hb, hml, hown, hbw⟩ (tM_refuse l dC dI r cI cZ cG (b) (g) s.heap.size true false false) (cwV 3 hbw (bw_V km_M_53 ki_yM_refuse ksel_yM_refuse ki_EventPatternsModel kcM_refuse) rfl rfl rfl (by decide +kernel) ⟨Nat.le_of_ble_eq_true rfl, Nat.le_of_ble_eq_true rfl⟩) ⟨fun a U g mk q => by obtain ⟨q0, q1, qP, qK, qD⟩ := q; exact ⟨q0, q1, qP, va_K.moved (u := U) (U := U.calling g mk a) (Vm.Alike.refl U.vm) qK, qD⟩, va_recv hK hP (ci := 1) (q0 := 0) rfl rfl, fun U hU hW => ⟨rfl, by rw [hU], by rw [hU]; exact hP, va_K.moved hW.alike hK, hD.weaken (fun _ _ _ _ => trivial)⟩⟩ rfl rfl hl.1 rfl (lv_room (Nat.le_of_ble_eq_true rfl)) dM_match_93 ⟨Nat.le_of_ble_eq_true rfl, Nat.le_of_ble_eq_true rfl⟩) hS (fun q _ h => hFc q h) hFc (fun r_93 u t H1 locs ht hvm hq hB hz1 hk1 hS => ?_)
    obtain ⟨hq1, hq⟩ := hq
    have hq1 : r_93 = 1 := hq1
    subst hq1
    obtain rfl := hq
    obtain ⟨hP1, hK1, hD1⟩ := hB
    rw [ht] at hP1
    have hP : va_P (dC, dI) cls2 (mw r cI cZ (b) (va_up (g) 0 (nI (mTh true false false)))) H1 := hP1
    have hD : va_D A (mw r cI cZ (b) (va_up (g) 0 (nI (mTh true false false)))) := hD1.weaken (fun _ _ _ h => hFc _ h)
    generalize H1 = H at hP hS ⊢
    refine lv_if_eq (tgt := 101) hx hb dM_match_96 (by decide) (fun c9 => absurd c9 (by decide)) (fun _ => ?_)
    refine lv_iconst (v := 0) hx hb dM_match_99 (by decide) ?_
    exact W.iret (v := 0) hx hb hr (fun t ht hW => ⟨⟨0, (b, va_up g 0 (nI 1)), rfl, ⟨fun _ => rfl, fun h9 => absurd h9 (by omega), fun h9 => absurd h9 (by omega)⟩, by rw [ht]; exact hP, va_K.moved hW.alike hK, hD⟩, hS.F ht⟩) hS.2.2 dM_match_100
  · refine lv_iconst (v := 1) hx hb dM_match_7 (by decide) ?_
    refine lv_goto (tgt := 12) hx hb dM_match_8 (by decide) ?_
    refine lv_istore (lv' := [(4, .int (1)), (0, .ref (r 0)), (1, .int (kv)), (2, .int (ix)), (3, .int (wh))]) hx hb dM_match_12 hl (by decide) rfl (fun ls hl => ?_)
    refine lv_iload hx hb dM_match_14 (lv_at hl 0 rfl) ?_
    refine lv_if_eq (tgt := 45) hx hb dM_match_16 (by decide) (fun c9 => absurd c9 (by decide)) (fun _ => ?_)
    refine lv_aload_n hx hb dM_match_19 rfl (lv_at hl 1 rfl) ?_
    refine lv_iload_n hx hb dM_match_20 rfl (lv_at hl 2 rfl) ?_
    have hFc := va_free (wc := mw r cI cZ (b) (g)) hD hS hA (List.range 11) rfl
    refine va_calli (va_runV (As := [.int (kv)]) (rest := []) ⟨hx, hb, hml, hown, hbw⟩ (tM_find l dC dI r cI cZ cG (b) (g) s.heap.size ev ms kv hev hg1 (by omega) hm hg4 hsy) (cwV 1 hbw (bw_V km_M_89 ki_yM_find ksel_yM_find ki_EventPatternsModel kcM_find) rfl rfl rfl (by decide +kernel) ⟨Nat.le_of_ble_eq_true rfl, Nat.le_of_ble_eq_true rfl⟩) ⟨fun a U g mk q => by obtain ⟨q0, q1, qP, qK, qD⟩ := q; exact ⟨q0, q1, qP, va_K.moved (u := U) (U := U.calling g mk a) (Vm.Alike.refl U.vm) qK, qD⟩, va_recv hK hP (ci := 1) (q0 := 0) rfl rfl, fun U hU hW => ⟨rfl, by rw [hU], by rw [hU]; exact hP, va_K.moved hW.alike hK, hD.weaken (fun _ _ _ _ => trivial)⟩⟩ rfl rfl hl.1 rfl (lv_room (Nat.le_of_ble_eq_true rfl)) dM_match_21 ⟨Nat.le_of_ble_eq_true rfl, Nat.le_of_ble_eq_true rfl⟩) hS (fun q _ h => hFc q h) hFc (fun r_21 u t H1 locs ht hvm hq hB hz1 hk1 hS => ?_)
    obtain ⟨hq1, hq2⟩ := hq
    rcases hF : mFnd b g ev ms kv with _ | ⟨fi, Lf⟩
    · obtain ⟨hq3, y, hq⟩ := hq1 hF
      have hq3 : r_21 = 0 := hq3
      subst hq3
      obtain rfl := hq
      obtain ⟨hP1, hK1, hD1⟩ := hB
      rw [ht] at hP1
      have hP : va_P (dC, dI) cls2 (mw r cI cZ (va_up b 7 y) (va_up g 5 0)) H1 := hP1
      have hD : va_D A (mw r cI cZ (va_up b 7 y) (va_up g 5 0)) := hD1.weaken (fun _ _ _ h => hFc _ h)
      generalize H1 = H at hP hS ⊢
      refine lv_if_eq (tgt := 45) hx hb dM_match_24 (by decide) (fun _ => ?_) (fun c9 => absurd c9 (by decide))
      refine lv_iconst (v := 0) hx hb dM_match_45 (by decide) ?_
      refine lv_istore (lv' := [(5, .int (0)), (4, .int (1)), (0, .ref (r 0)), (1, .int (kv)), (2, .int (ix)), (3, .int (wh))]) hx hb dM_match_46 hl (by decide) rfl (fun ls hl => ?_)
      refine lv_aload_n hx hb dM_match_48 rfl (lv_at hl 2 rfl) ?_
      refine lv_iload hx hb dM_match_49 (lv_at hl 1 rfl) ?_
      refine lv_if_ne (tgt := 58) hx hb dM_match_51 (by decide) (fun _ => ?_) (fun c9 => absurd c9 (by decide))
      refine lv_iconst (v := 0) hx hb dM_match_58 (by decide) ?_
      refine lv_iload hx hb dM_match_59 (lv_at hl 1 rfl) ?_
      refine lv_if_eq (tgt := 73) hx hb dM_match_61 (by decide) (fun c9 => absurd c9 (by decide)) (fun _ => ?_)
      refine lv_iload hx hb dM_match_64 (lv_at hl 0 rfl) ?_
      refine lv_if_ne (tgt := 73) hx hb dM_match_66 (by decide) (fun c9 => absurd c9 (by decide)) (fun _ => ?_)
      refine lv_iconst (v := 1) hx hb dM_match_69 (by decide) ?_
      refine lv_goto (tgt := 74) hx hb dM_match_70 (by decide) ?_
      refine lv_iload hx hb dM_match_74 (lv_at hl 0 rfl) ?_
      refine lv_if_eq (tgt := 92) hx hb dM_match_76 (by decide) (fun _ => ?_) (fun c9 => absurd c9 (by decide))
      refine lv_iconst (v := 0) hx hb dM_match_92 (by decide) ?_
      have hFc := va_free (wc := mw r cI cZ (va_up b 7 y) (va_up g 5 0)) hD hS hA (List.range 11) rfl
      refine va_calli (va_runV (As := [.int (0), .int (1), .int (0)]) (rest := []) ⟨hx, hb, hml, hown, hbw⟩ (tM_refuse l dC dI r cI cZ cG (va_up b 7 y) (va_up g 5 0) H.size false true false) (cwV 3 hbw (bw_V km_M_53 ki_yM_refuse ksel_yM_refuse ki_EventPatternsModel kcM_refuse) rfl rfl rfl (by decide +kernel) ⟨Nat.le_of_ble_eq_true rfl, Nat.le_of_ble_eq_true rfl⟩) ⟨fun a U g mk q => by obtain ⟨q0, q1, qP, qK, qD⟩ := q; exact ⟨q0, q1, qP, va_K.moved (u := U) (U := U.calling g mk a) (Vm.Alike.refl U.vm) qK, qD⟩, va_recv hK hP (ci := 1) (q0 := 0) rfl rfl, fun U hU hW => ⟨rfl, by rw [hU], by rw [hU]; exact hP, va_K.moved hW.alike hK, hD.weaken (fun _ _ _ _ => trivial)⟩⟩ rfl rfl hl.1 rfl (lv_room (Nat.le_of_ble_eq_true rfl)) dM_match_93 ⟨Nat.le_of_ble_eq_true rfl, Nat.le_of_ble_eq_true rfl⟩) hS (fun q _ h => hFc q h) hFc (fun r_93 u t H1 locs ht hvm hq hB hz1 hk1 hS => ?_)
      obtain ⟨hq1, hq⟩ := hq
      have hq1 : r_93 = 1 := hq1
      subst hq1
      obtain rfl := hq
      obtain ⟨hP1, hK1, hD1⟩ := hB
      rw [ht] at hP1
      have hP : va_P (dC, dI) cls2 (mw r cI cZ (va_up b 7 y) (va_up (va_up g 5 0) 0 (nI (mTh false true false)))) H1 := hP1
      have hD : va_D A (mw r cI cZ (va_up b 7 y) (va_up (va_up g 5 0) 0 (nI (mTh false true false)))) := hD1.weaken (fun _ _ _ h => hFc _ h)
      generalize H1 = H at hP hS ⊢
      refine lv_if_eq (tgt := 101) hx hb dM_match_96 (by decide) (fun c9 => absurd c9 (by decide)) (fun _ => ?_)
      refine lv_iconst (v := 0) hx hb dM_match_99 (by decide) ?_
      exact W.iret (v := 0) hx hb hr (fun t ht hW => ⟨⟨0, (va_up b 7 y, va_up (va_up g 5 0) 0 (nI 2)), rfl, ⟨fun h9 => absurd h9 (by omega), fun _ _ => ⟨y, rfl⟩, fun _ fi2 Lf2 h8 => by cases h8⟩, by rw [ht]; exact hP, va_K.moved hW.alike hK, hD⟩, hS.F ht⟩) hS.2.2 dM_match_100
    obtain ⟨hq3, y, hq⟩ := hq2 fi Lf hF
    have hq3 : r_21 = 1 := hq3
    subst hq3
    obtain rfl := hq
    obtain ⟨hP1, hK1, hD1⟩ := hB
    rw [ht] at hP1
    have hP : va_P (dC, dI) cls2 (mw r cI cZ (va_up (mPath b g ev ms fi Lf).1 7 y) ((mPath b g ev ms fi Lf).2)) H1 := hP1
    have hD : va_D A (mw r cI cZ (va_up (mPath b g ev ms fi Lf).1 7 y) ((mPath b g ev ms fi Lf).2)) := hD1.weaken (fun _ _ _ h => hFc _ h)
    generalize H1 = H at hP hS ⊢
    obtain ⟨z1, z2, z3⟩ := mFnd_ok hF
    obtain ⟨fr1, fr2, L, hL1, hL2, hf5⟩ := mPath_fr (by omega) hm hsy z1 z2 z3
    refine lv_if_eq (tgt := 45) hx hb dM_match_24 (by decide) (fun c9 => absurd c9 (by decide)) (fun _ => ?_)
    refine lv_iload_n hx hb dM_match_27 rfl (lv_at hl 3 rfl) ?_
    refine lv_iconst (v := 0) hx hb dM_match_28 (by decide) ?_
    refine lv_aload_n hx hb dM_match_29 rfl (lv_at hl 1 rfl) ?_
    refine va_get (D := (dC, dI)) (ci := 1) (v := .int (nI (L))) (C := "EventPatternsModel") (T := TM) (N := 16) hx hb hbw inM hown hK hP 0 rfl rfl 13 (by decide) (hbw _ kf_M_82) (fun _ h9 => h9) (congrArg (fun z => some (Value.int z)) (hf5)) dM_match_30 ?_
    refine lv_iconst (v := 1) hx hb dM_match_33 (by decide) ?_
    refine nr_isub hx hb (a1 := L) (b1 := 1) (by omega) dM_match_34 ?_
    refine vp_callSi (W.runS (As := [.int (ix), .int (0), .int (nI (L - 1))]) (rest := []) ⟨hx, hb, hml, hown, hbw⟩ (tM_in l (ix) (0) (nI (L - 1))) (cwS 3 hbw (bw_S km_M_49 ks_yM_in ki_EventPatternsModel kcM_in) rfl rfl rfl (by decide +kernel) ⟨Nat.le_of_ble_eq_true rfl, Nat.le_of_ble_eq_true rfl⟩) ⟨fun a U g mk q => q, fun U hU hW => ⟨rfl, trivial⟩⟩ rfl rfl hl.1 rfl (lv_room (Nat.le_of_ble_eq_true rfl)) dM_match_35 ⟨Nat.le_of_ble_eq_true rfl, Nat.le_of_ble_eq_true rfl⟩) (fun r_35 hq => ?_)
    subst hq
    refine nr_ifb_eq (tgt := 45) hx hb (b := (iIn (ix) (0) (nI (L - 1)))) dM_match_38 (by decide) (fun c_38 => ?_) (fun c_38 => ?_)
    · refine lv_iconst (v := 0) hx hb dM_match_45 (by decide) ?_
      refine lv_istore (lv' := [(5, .int (0)), (4, .int (1)), (0, .ref (r 0)), (1, .int (kv)), (2, .int (ix)), (3, .int (wh))]) hx hb dM_match_46 hl (by decide) rfl (fun ls hl => ?_)
      refine lv_aload_n hx hb dM_match_48 rfl (lv_at hl 2 rfl) ?_
      refine lv_iload hx hb dM_match_49 (lv_at hl 1 rfl) ?_
      refine lv_if_ne (tgt := 58) hx hb dM_match_51 (by decide) (fun _ => ?_) (fun c9 => absurd c9 (by decide))
      refine lv_iconst (v := 0) hx hb dM_match_58 (by decide) ?_
      refine lv_iload hx hb dM_match_59 (lv_at hl 1 rfl) ?_
      refine lv_if_eq (tgt := 73) hx hb dM_match_61 (by decide) (fun c9 => absurd c9 (by decide)) (fun _ => ?_)
      refine lv_iload hx hb dM_match_64 (lv_at hl 0 rfl) ?_
      refine lv_if_ne (tgt := 73) hx hb dM_match_66 (by decide) (fun c9 => absurd c9 (by decide)) (fun _ => ?_)
      refine lv_iconst (v := 1) hx hb dM_match_69 (by decide) ?_
      refine lv_goto (tgt := 74) hx hb dM_match_70 (by decide) ?_
      refine lv_iload hx hb dM_match_74 (lv_at hl 0 rfl) ?_
      refine lv_if_eq (tgt := 92) hx hb dM_match_76 (by decide) (fun _ => ?_) (fun c9 => absurd c9 (by decide))
      refine lv_iconst (v := 0) hx hb dM_match_92 (by decide) ?_
      have hFc := va_free (wc := mw r cI cZ (va_up (mPath b g ev ms fi Lf).1 7 y) ((mPath b g ev ms fi Lf).2)) hD hS hA (List.range 11) rfl
      refine va_calli (va_runV (As := [.int (0), .int (1), .int (0)]) (rest := []) ⟨hx, hb, hml, hown, hbw⟩ (tM_refuse l dC dI r cI cZ cG (va_up (mPath b g ev ms fi Lf).1 7 y) ((mPath b g ev ms fi Lf).2) H.size false true false) (cwV 3 hbw (bw_V km_M_53 ki_yM_refuse ksel_yM_refuse ki_EventPatternsModel kcM_refuse) rfl rfl rfl (by decide +kernel) ⟨Nat.le_of_ble_eq_true rfl, Nat.le_of_ble_eq_true rfl⟩) ⟨fun a U g mk q => by obtain ⟨q0, q1, qP, qK, qD⟩ := q; exact ⟨q0, q1, qP, va_K.moved (u := U) (U := U.calling g mk a) (Vm.Alike.refl U.vm) qK, qD⟩, va_recv hK hP (ci := 1) (q0 := 0) rfl rfl, fun U hU hW => ⟨rfl, by rw [hU], by rw [hU]; exact hP, va_K.moved hW.alike hK, hD.weaken (fun _ _ _ _ => trivial)⟩⟩ rfl rfl hl.1 rfl (lv_room (Nat.le_of_ble_eq_true rfl)) dM_match_93 ⟨Nat.le_of_ble_eq_true rfl, Nat.le_of_ble_eq_true rfl⟩) hS (fun q _ h => hFc q h) hFc (fun r_93 u t H1 locs ht hvm hq hB hz1 hk1 hS => ?_)
      obtain ⟨hq1, hq⟩ := hq
      have hq1 : r_93 = 1 := hq1
      subst hq1
      obtain rfl := hq
      obtain ⟨hP1, hK1, hD1⟩ := hB
      rw [ht] at hP1
      have hP : va_P (dC, dI) cls2 (mw r cI cZ (va_up (mPath b g ev ms fi Lf).1 7 y) (va_up ((mPath b g ev ms fi Lf).2) 0 (nI (mTh false true false)))) H1 := hP1
      have hD : va_D A (mw r cI cZ (va_up (mPath b g ev ms fi Lf).1 7 y) (va_up ((mPath b g ev ms fi Lf).2) 0 (nI (mTh false true false)))) := hD1.weaken (fun _ _ _ h => hFc _ h)
      generalize H1 = H at hP hS ⊢
      refine lv_if_eq (tgt := 101) hx hb dM_match_96 (by decide) (fun c9 => absurd c9 (by decide)) (fun _ => ?_)
      refine lv_iconst (v := 0) hx hb dM_match_99 (by decide) ?_
      exact W.iret (v := 0) hx hb hr (fun t ht hW => ⟨⟨0, (va_up (mPath b g ev ms fi Lf).1 7 y, va_up (mPath b g ev ms fi Lf).2 0 (nI 2)), rfl, ⟨fun h9 => absurd h9 (by omega), fun _ h8 => (by cases h8), fun _ fi2 Lf2 h8 => by cases h8; exact Or.inl ⟨by rw [hf5]; exact iIn_f hL1 hL2 c_38, y, rfl⟩⟩, by rw [ht]; exact hP, va_K.moved hW.alike hK, hD⟩, hS.F ht⟩) hS.2.2 dM_match_100
    · obtain ⟨j, hj, rfl⟩ := iIn_t hL1 hL2 c_38
      have hnoix : ¬ (nI j < 0 ∨ (mPath b g ev ms fi Lf).2 5 ≤ nI j) := by rw [hf5]; exact fun h9 => h9.elim (fun h8 => nI_pos (by omega) h8) (fun h8 => nI_ge hj (by omega) h8)
      refine lv_iconst (v := 1) hx hb dM_match_41 (by decide) ?_
      refine lv_goto (tgt := 46) hx hb dM_match_42 (by decide) ?_
      refine lv_istore (lv' := [(5, .int (1)), (4, .int (1)), (0, .ref (r 0)), (1, .int (kv)), (2, .int (nI (j))), (3, .int (wh))]) hx hb dM_match_46 hl (by decide) rfl (fun ls hl => ?_)
      refine lv_aload_n hx hb dM_match_48 rfl (lv_at hl 2 rfl) ?_
      refine lv_iload hx hb dM_match_49 (lv_at hl 1 rfl) ?_
      refine lv_if_ne (tgt := 58) hx hb dM_match_51 (by decide) (fun _ => ?_) (fun c9 => absurd c9 (by decide))
      refine lv_iconst (v := 0) hx hb dM_match_58 (by decide) ?_
      refine lv_iload hx hb dM_match_59 (lv_at hl 1 rfl) ?_
      refine lv_if_eq (tgt := 73) hx hb dM_match_61 (by decide) (fun c9 => absurd c9 (by decide)) (fun _ => ?_)
      refine lv_iload hx hb dM_match_64 (lv_at hl 0 rfl) ?_
      refine lv_if_ne (tgt := 73) hx hb dM_match_66 (by decide) (fun _ => ?_) (fun c9 => absurd c9 (by decide))
      refine lv_iconst (v := 0) hx hb dM_match_73 (by decide) ?_
      refine lv_iload hx hb dM_match_74 (lv_at hl 0 rfl) ?_
      refine lv_if_eq (tgt := 92) hx hb dM_match_76 (by decide) (fun c9 => absurd c9 (by decide)) (fun _ => ?_)
      refine lv_iload_n hx hb dM_match_79 rfl (lv_at hl 5 rfl) ?_
      refine lv_iconst (v := 0) hx hb dM_match_80 (by decide) ?_
      refine lv_iconst (v := 1) hx hb dM_match_81 (by decide) ?_
      refine vp_callSi (W.runS (As := [.int (wh), .int (0), .int (1)]) (rest := [.int (0), .int (0), .ref (r 0)]) ⟨hx, hb, hml, hown, hbw⟩ (tM_in l (wh) (0) (1)) (cwS 3 hbw (bw_S km_M_49 ks_yM_in ki_EventPatternsModel kcM_in) rfl rfl rfl (by decide +kernel) ⟨Nat.le_of_ble_eq_true rfl, Nat.le_of_ble_eq_true rfl⟩) ⟨fun a U g mk q => q, fun U hU hW => ⟨rfl, trivial⟩⟩ rfl rfl hl.1 rfl (lv_room (Nat.le_of_ble_eq_true rfl)) dM_match_82 ⟨Nat.le_of_ble_eq_true rfl, Nat.le_of_ble_eq_true rfl⟩) (fun r_82 hq => ?_)
      subst hq
      refine nr_ifb_ne (tgt := 92) hx hb (b := (iIn (wh) (0) (1))) dM_match_85 (by decide) (fun c_85 => ?_) (fun c_85 => ?_)
      · refine lv_iconst (v := 0) hx hb dM_match_92 (by decide) ?_
        have hFc := va_free (wc := mw r cI cZ (va_up (mPath b g ev ms fi Lf).1 7 y) ((mPath b g ev ms fi Lf).2)) hD hS hA (List.range 11) rfl
        refine va_calli (va_runV (As := [.int (0), .int (0), .int (0)]) (rest := []) ⟨hx, hb, hml, hown, hbw⟩ (tM_refuse l dC dI r cI cZ cG (va_up (mPath b g ev ms fi Lf).1 7 y) ((mPath b g ev ms fi Lf).2) H.size false false false) (cwV 3 hbw (bw_V km_M_53 ki_yM_refuse ksel_yM_refuse ki_EventPatternsModel kcM_refuse) rfl rfl rfl (by decide +kernel) ⟨Nat.le_of_ble_eq_true rfl, Nat.le_of_ble_eq_true rfl⟩) ⟨fun a U g mk q => by obtain ⟨q0, q1, qP, qK, qD⟩ := q; exact ⟨q0, q1, qP, va_K.moved (u := U) (U := U.calling g mk a) (Vm.Alike.refl U.vm) qK, qD⟩, va_recv hK hP (ci := 1) (q0 := 0) rfl rfl, fun U hU hW => ⟨rfl, by rw [hU], by rw [hU]; exact hP, va_K.moved hW.alike hK, hD.weaken (fun _ _ _ _ => trivial)⟩⟩ rfl rfl hl.1 rfl (lv_room (Nat.le_of_ble_eq_true rfl)) dM_match_93 ⟨Nat.le_of_ble_eq_true rfl, Nat.le_of_ble_eq_true rfl⟩) hS (fun q _ h => hFc q h) hFc (fun r_93 u t H1 locs ht hvm hq hB hz1 hk1 hS => ?_)
        obtain ⟨hq1, hq⟩ := hq
        have hq1 : r_93 = 0 := hq1
        subst hq1
        obtain rfl := hq
        obtain ⟨hP1, hK1, hD1⟩ := hB
        rw [ht] at hP1
        have hP : va_P (dC, dI) cls2 (mw r cI cZ (va_up (mPath b g ev ms fi Lf).1 7 y) (va_up ((mPath b g ev ms fi Lf).2) 0 (nI (mTh false false false)))) H1 := hP1
        have hD : va_D A (mw r cI cZ (va_up (mPath b g ev ms fi Lf).1 7 y) (va_up ((mPath b g ev ms fi Lf).2) 0 (nI (mTh false false false)))) := hD1.weaken (fun _ _ _ h => hFc _ h)
        generalize H1 = H at hP hS ⊢
        refine lv_if_eq (tgt := 101) hx hb dM_match_96 (by decide) (fun _ => ?_) (fun c9 => absurd c9 (by decide))
        refine lv_iload_n hx hb dM_match_101 rfl (lv_at hl 5 rfl) ?_
        refine lv_if_ne (tgt := 114) hx hb dM_match_102 (by decide) (fun c_102 => ?_) (fun c_102 => ?_)
        · refine lv_aload_n hx hb dM_match_114 rfl (lv_at hl 2 rfl) ?_
          refine va_get (D := (dC, dI)) (ci := 1) (v := .ref (r 10)) (C := "EventPatternsModel") (T := TM) (N := 16) hx hb hbw inM hown hK hP 0 rfl rfl 15 (by decide) (hbw _ kf_M_38) (fun _ h9 => h9) rfl dM_match_115 ?_
          refine lv_iload_n hx hb dM_match_118 rfl (lv_at hl 4 rfl) ?_
          refine nr_iald (f := (mPath b g ev ms fi Lf).1 9) hx hb hK hP 10 0 rfl rfl (j := j) (by omega) (by decide) dM_match_119 ?_
          exact W.iret (v := ((mPath b g ev ms fi Lf).1 9) (j)) hx hb hr (fun t ht hW => ⟨⟨((mPath b g ev ms fi Lf).1 9) (j), (va_up (mPath b g ev ms fi Lf).1 7 y, va_up (mPath b g ev ms fi Lf).2 0 (nI 0)), rfl, ⟨fun h9 => absurd h9 (by omega), fun _ h8 => (by cases h8), fun _ fi2 Lf2 h8 => by cases h8; exact Or.inr (Or.inr ⟨hnoix, iIn_01 c_85, by rw [nI_clamp (by omega)]; first | rw [if_pos c_102] | rw [if_neg c_102], y, rfl⟩)⟩, by rw [ht]; exact hP, va_K.moved hW.alike hK, hD⟩, hS.F ht⟩) hS.2.2 dM_match_120
        · refine lv_aload_n hx hb dM_match_105 rfl (lv_at hl 2 rfl) ?_
          refine va_get (D := (dC, dI)) (ci := 1) (v := .ref (r 9)) (C := "EventPatternsModel") (T := TM) (N := 16) hx hb hbw inM hown hK hP 0 rfl rfl 14 (by decide) (hbw _ kf_M_35) (fun _ h9 => h9) rfl dM_match_106 ?_
          refine lv_iload_n hx hb dM_match_109 rfl (lv_at hl 4 rfl) ?_
          refine nr_iald (f := (mPath b g ev ms fi Lf).1 8) hx hb hK hP 9 0 rfl rfl (j := j) (by omega) (by decide) dM_match_110 ?_
          refine lv_goto (tgt := 120) hx hb dM_match_111 (by decide) ?_
          exact W.iret (v := ((mPath b g ev ms fi Lf).1 8) (j)) hx hb hr (fun t ht hW => ⟨⟨((mPath b g ev ms fi Lf).1 8) (j), (va_up (mPath b g ev ms fi Lf).1 7 y, va_up (mPath b g ev ms fi Lf).2 0 (nI 0)), rfl, ⟨fun h9 => absurd h9 (by omega), fun _ h8 => (by cases h8), fun _ fi2 Lf2 h8 => by cases h8; exact Or.inr (Or.inr ⟨hnoix, iIn_01 c_85, by rw [nI_clamp (by omega)]; first | rw [if_pos c_102] | rw [if_neg c_102], y, rfl⟩)⟩, by rw [ht]; exact hP, va_K.moved hW.alike hK, hD⟩, hS.F ht⟩) hS.2.2 dM_match_120
      · refine lv_iconst (v := 1) hx hb dM_match_88 (by decide) ?_
        refine lv_goto (tgt := 93) hx hb dM_match_89 (by decide) ?_
        have hFc := va_free (wc := mw r cI cZ (va_up (mPath b g ev ms fi Lf).1 7 y) ((mPath b g ev ms fi Lf).2)) hD hS hA (List.range 11) rfl
        refine va_calli (va_runV (As := [.int (0), .int (0), .int (1)]) (rest := []) ⟨hx, hb, hml, hown, hbw⟩ (tM_refuse l dC dI r cI cZ cG (va_up (mPath b g ev ms fi Lf).1 7 y) ((mPath b g ev ms fi Lf).2) H.size false false true) (cwV 3 hbw (bw_V km_M_53 ki_yM_refuse ksel_yM_refuse ki_EventPatternsModel kcM_refuse) rfl rfl rfl (by decide +kernel) ⟨Nat.le_of_ble_eq_true rfl, Nat.le_of_ble_eq_true rfl⟩) ⟨fun a U g mk q => by obtain ⟨q0, q1, qP, qK, qD⟩ := q; exact ⟨q0, q1, qP, va_K.moved (u := U) (U := U.calling g mk a) (Vm.Alike.refl U.vm) qK, qD⟩, va_recv hK hP (ci := 1) (q0 := 0) rfl rfl, fun U hU hW => ⟨rfl, by rw [hU], by rw [hU]; exact hP, va_K.moved hW.alike hK, hD.weaken (fun _ _ _ _ => trivial)⟩⟩ rfl rfl hl.1 rfl (lv_room (Nat.le_of_ble_eq_true rfl)) dM_match_93 ⟨Nat.le_of_ble_eq_true rfl, Nat.le_of_ble_eq_true rfl⟩) hS (fun q _ h => hFc q h) hFc (fun r_93 u t H1 locs ht hvm hq hB hz1 hk1 hS => ?_)
        obtain ⟨hq1, hq⟩ := hq
        have hq1 : r_93 = 1 := hq1
        subst hq1
        obtain rfl := hq
        obtain ⟨hP1, hK1, hD1⟩ := hB
        rw [ht] at hP1
        have hP : va_P (dC, dI) cls2 (mw r cI cZ (va_up (mPath b g ev ms fi Lf).1 7 y) (va_up ((mPath b g ev ms fi Lf).2) 0 (nI (mTh false false true)))) H1 := hP1
        have hD : va_D A (mw r cI cZ (va_up (mPath b g ev ms fi Lf).1 7 y) (va_up ((mPath b g ev ms fi Lf).2) 0 (nI (mTh false false true)))) := hD1.weaken (fun _ _ _ h => hFc _ h)
        generalize H1 = H at hP hS ⊢
        refine lv_if_eq (tgt := 101) hx hb dM_match_96 (by decide) (fun c9 => absurd c9 (by decide)) (fun _ => ?_)
        refine lv_iconst (v := 0) hx hb dM_match_99 (by decide) ?_
        exact W.iret (v := 0) hx hb hr (fun t ht hW => ⟨⟨0, (va_up (mPath b g ev ms fi Lf).1 7 y, va_up (mPath b g ev ms fi Lf).2 0 (nI 3)), rfl, ⟨fun h9 => absurd h9 (by omega), fun _ h8 => (by cases h8), fun _ fi2 Lf2 h8 => by cases h8; exact Or.inr (Or.inl ⟨hnoix, iIn_n01 c_85, y, rfl⟩)⟩, by rw [ht]; exact hP, va_K.moved hW.alike hK, hD⟩, hS.F ht⟩) hS.2.2 dM_match_100
