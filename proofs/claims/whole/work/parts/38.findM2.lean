/-! THE REFERENCE: find -/
theorem mSel_c {b b2 : Nat → Nat → Int32} {g g2 : Nat → Int32} (h : ∀ i, i ≤ 6 → b2 i = b i) (h2 : g2 2 = g 2) (h3 : g2 3 = g 3) (ev ms : Nat) : ∀ k fi Lf, mSel b2 g2 ev ms k fi Lf = mSel b g ev ms k fi Lf := by
  intro k
  induction k with
  | zero => intro fi Lf; rfl
  | succ k ih => intro fi Lf; rw [mSel, mSel, gF_c h h2 h3, ih]
theorem up_id (b : Nat → Nat → Int32) (i : Nat) : va_up b i (b i) = b := by
  funext j
  by_cases h : j = i
  · subst h; exact va_up_self _ _ _
  · exact va_up_ne _ _ h
def mFnd (b : Nat → Nat → Int32) (g : Nat → Int32) (ev ms : Nat) (kv : Int32) : Option (Nat × Nat) := if kv < 0 then none else mSel b g ev ms (ev - (ev - 16)) (ev - 16) kv.toNatClampNeg
def mPath (b : Nat → Nat → Int32) (g : Nat → Int32) (ev ms fi Lf : Nat) : MS := mPathL ev ms fi (ev + 1) fi 0 Lf 1 (mAdd b 0 fi 0) (va_up (va_up g 5 0) 5 (nI (0 + 1)))
set_option maxHeartbeats 4000000 in
set_option maxRecDepth 100000 in
/-- find(k) -/
theorem tM_find (l : Launch) (dC : Nat → ClassId) (dI : Nat → Nat → Nat) (r : Nat → Nat) (cI cZ cG : ClassId) (b : Nat → Nat → Int32) (g : Nat → Int32) (sz : Nat) (ev ms : Nat) (kv : Int32) (hev : ev ≤ 400) (hg1 : g 1 = nI ev) (h0 : 1 ≤ ms) (hm : ms ≤ 5) (hg4 : g 4 = nI ms) (hsy : g 2 = 0 ∨ g 2 = 1)  : Met l yM_find wM_find ({ frames := 2, cells := 0, slots := 0, locals := 57 }) (va_Pc [.ref (r 0), .int (kv)] (fun U => U.heap.size = sz ∧ va_P (dC, dI) cls2 (mw r cI cZ b g) U.heap ∧ va_K (dC, dI) cls2 (xt cI cZ cG) U ∧ va_D (fun _ => True) (mw r cI cZ b g))) (va_Qi (fun (r0 : Int32) (u : MS) => (mFnd b g ev ms kv = none → r0 = bI false ∧ ∃ y : Nat → Int32, u = (va_up b 7 y, va_up g 5 0)) ∧ (∀ fi Lf : Nat, mFnd b g ev ms kv = some (fi, Lf) → r0 = bI true ∧ ∃ y : Nat → Int32, u = (va_up (mPath b g ev ms fi Lf).1 7 y, (mPath b g ev ms fi Lf).2))) (atM dC dI r cI cZ cG (va_A (mw r cI cZ b g) sz)) (va_A (mw r cI cZ b g) sz)) 0 0 (va_A (mw r cI cZ b g) sz) := by
  refine Met.ofW (cc := cM_find) (maxL := 12) (ret := (some .boolean)) (by decide) rfl ?_
  intro p e s m args below meth c s₁ B hml hv
  obtain ⟨rfl, hsz, hP, hK, hD0⟩ := hv
  have hx := B.exec
  have hb := B.bytes
  have hr := B.returns
  have hbw : ∀ w ∈ bw, w.before _ s = true := fun w h => atoms_spec (ws := wM_find) B.pre w (List.mem_cons_of_mem _ h)
  have hown : s.vm.findClass "EventPatternsModel" = some m.cls := findClass_of_methodNamed B.named
  have hlocks := B.notSynchronized
  subst hsz
  have hD := hD0.self (sz := s.heap.size)
  generalize hAe : va_A (mw r cI cZ b g) s.heap.size = A at hD ⊢
  have hA : ∀ q : Nat, s.heap.size ≤ q → A q := fun q h => by rw [← hAe]; exact Or.inr h
  have hS : va_S A s.heap s.heap [] := va_S.rf
  have hl := lv_entry ([.ref (r 0), .int (kv)]) (n := 12) (Nat.le_of_ble_eq_true rfl)
  rw [lg_entry_eq]
  generalize (lg_sl ([.ref (r 0), .int (kv)]) ++ List.replicate (12 - (lg_sl ([.ref (r 0), .int (kv)])).length) Slot.unset).toArray = ls at hl ⊢
  have hl : lv_has ls 12 [(0, .ref (r 0)), (1, .int (kv))] := hl
  refine lv_aload_n hx hb dM_find_0 rfl (lv_at hl 0 rfl) ?_
  refine lv_iconst (v := 0) hx hb dM_find_1 (by decide) ?_
  refine va_put (D := (dC, dI)) (ci := 1) (v := .int (0)) (ty := .int) (C := "EventPatternsModel") (T := TM) (N := 16) hx hb hbw inM tyM okM nmM hown hK hP hD hS 0 rfl rfl 13 (by decide) (hbw _ kf_M_82) (fun _ h9 => h9) rfl (by decide +kernel) rfl rfl (Nat.le_of_ble_eq_true rfl) dM_find_2 (fun H locs hP hD hS => ?_)
  have hP : va_P (dC, dI) cls2 (mw r cI cZ (b) (va_up (g) 5 (0))) H := hP
  have hD : va_D A (mw r cI cZ (b) (va_up (g) 5 (0))) := hD
  refine lv_iload_n hx hb dM_find_5 rfl (lv_at hl 1 rfl) ?_
  refine lv_istore_n (lv' := [(2, .int (kv)), (0, .ref (r 0)), (1, .int (kv))]) hx hb dM_find_6 rfl hl (by decide) rfl (fun ls hl => ?_)
  refine lv_aload_n hx hb dM_find_7 rfl (lv_at hl 1 rfl) ?_
  refine vp_callSi (W.runV (As := []) (rest := []) ⟨hx, hb, hml, hown, hbw⟩ (tM_from l dC dI r cI cZ cG b (va_up (g) 5 (0)) ev hev hg1) (cwV 0 hbw (bw_V km_M_66 ki_yM_from ksel_yM_from ki_EventPatternsModel kcM_from) rfl rfl rfl (by decide +kernel) ⟨Nat.le_of_ble_eq_true rfl, Nat.le_of_ble_eq_true rfl⟩) ⟨fun a U g mk q => by obtain ⟨q0, qP, qK⟩ := q; exact ⟨q0, qP, va_K.moved (u := U) (U := U.calling g mk a) (Vm.Alike.refl U.vm) qK⟩, va_recv hK hP (ci := 1) (q0 := 0) rfl rfl, fun U hU hW => ⟨rfl, by rw [hU]; exact hP, va_K.moved hW.alike hK⟩⟩ rfl rfl hl.1 rfl (lv_room (Nat.le_of_ble_eq_true rfl)) dM_find_8 ⟨Nat.le_of_ble_eq_true rfl, Nat.le_of_ble_eq_true rfl⟩) (fun r_8 hq => ?_)
  subst hq
  refine lv_istore_n (lv' := [(3, .int (nI (ev - 16))), (2, .int (kv)), (0, .ref (r 0)), (1, .int (kv))]) hx hb dM_find_11 rfl hl (by decide) rfl (fun ls hl => ?_)
  refine lv_iload_n hx hb dM_find_12 rfl (lv_at hl 3 rfl) ?_
  refine lv_if_lt (tgt := 20) hx hb dM_find_13 (by decide) (fun c_13 => ?_) (fun c_13 => ?_)
  · refine lv_iconst (v := 0) hx hb dM_find_20 (by decide) ?_
    refine lv_istore (lv' := [(4, .int (0)), (3, .int (nI (ev - 16))), (2, .int (kv)), (0, .ref (r 0)), (1, .int (kv))]) hx hb dM_find_21 hl (by decide) rfl (fun ls hl => ?_)
    refine lv_iload hx hb dM_find_23 (lv_at hl 0 rfl) ?_
    refine lv_if_eq (tgt := 104) hx hb dM_find_25 (by decide) (fun _ => ?_) (fun c9 => absurd c9 (by decide))
    refine lv_iload hx hb dM_find_104 (lv_at hl 0 rfl) ?_
    refine lv_if_ne (tgt := 113) hx hb dM_find_106 (by decide) (fun c9 => absurd c9 (by decide)) (fun _ => ?_)
    refine lv_iload_n hx hb dM_find_109 rfl (lv_at hl 4 rfl) ?_
    refine lv_if_ge (tgt := 115) hx hb dM_find_110 (by decide) (fun c9 => absurd c9 (Int32.not_le.mpr c_13)) (fun _ => ?_)
    refine lv_iconst (v := 0) hx hb dM_find_113 (by decide) ?_
    exact W.zret (v := 0) hx hb hr rfl (fun t ht hW => ⟨⟨0, (b, va_up g 5 0), rfl, ⟨fun _ => ⟨rfl, b 7, by rw [up_id]⟩, fun fi Lf h9 => by rw [mFnd, if_pos c_13] at h9; cases h9⟩, by rw [ht]; exact hP, va_K.moved hW.alike hK, hD⟩, hS.F ht⟩) hS.2.2 dM_find_114
  · refine lv_iconst (v := 1) hx hb dM_find_16 (by decide) ?_
    refine lv_goto (tgt := 21) hx hb dM_find_17 (by decide) ?_
    refine lv_istore (lv' := [(4, .int (1)), (3, .int (nI (ev - 16))), (2, .int (kv)), (0, .ref (r 0)), (1, .int (kv))]) hx hb dM_find_21 hl (by decide) rfl (fun ls hl => ?_)
    obtain ⟨K, hK31, rfl⟩ : ∃ K : Nat, K < 2 ^ 31 ∧ kv = nI K := by
      rcases pk_ix kv (n := 2 ^ 31 - 1) (by omega) with h9 | h9 | ⟨j, h9, h8⟩
      · exact absurd h9 c_13
      · exact ⟨2 ^ 31 - 1, by omega, Int32.le_antisymm (Int32.le_maxValue _) h9⟩
      · exact ⟨j, by omega, h8⟩
    have hP : va_P (dC, dI) cls2 (mw r cI cZ (va_up (b) 7 (b 7)) (va_up g 5 0)) H := hP
    have hD : va_D A (mw r cI cZ (va_up (b) 7 (b 7)) (va_up g 5 0)) := hD
    have eM : mFnd b g ev ms (nI K) = mSel b (va_up g 5 0) ev ms (ev - (ev - 16)) (ev - 16) K := by rw [mFnd, if_neg c_13, nI_clamp (by omega), mSel_c (b := b) (b2 := b) (g := g) (g2 := va_up g 5 0) (fun _ _ => rfl) rfl rfl]
    refine lM_sel l dC dI r cI cZ cG b (va_up g 5 0) ev ms (nI K) hev h0 hm hg1 hg4 ⟨Nat.le_refl _, Nat.le_refl _⟩ hx hb hml hown hbw hK hA (ev - (ev - 16)) (ev - 16) K (b 7) H _ ls (by omega) (by omega) hK31 (lv_sub hl [0, 1, 2, 3, 4] rfl) hP hD hS (fun hN y H locs ls hl hP hD hS => ?_) (fun fi Lf hSm hlt y H locs ls hl hP hD hS => ?_)
    · refine lv_iload hx hb dM_find_104 (lv_at hl 0 rfl) ?_
      refine lv_if_ne (tgt := 113) hx hb dM_find_106 (by decide) (fun _ => ?_) (fun c9 => absurd c9 (by decide))
      refine lv_iconst (v := 0) hx hb dM_find_113 (by decide) ?_
      exact W.zret (v := 0) hx hb hr rfl (fun t ht hW => ⟨⟨0, (va_up b 7 y, va_up g 5 0), rfl, ⟨fun _ => ⟨rfl, y, rfl⟩, fun fi Lf h9 => by rw [eM, hN] at h9; cases h9⟩, by rw [ht]; exact hP, va_K.moved hW.alike hK, hD⟩, hS.F ht⟩) hS.2.2 dM_find_114
    obtain ⟨q1, q2, q3, q4⟩ := hlt
    refine lv_iload hx hb dM_find_104 (lv_at hl 0 rfl) ?_
    refine lv_if_ne (tgt := 113) hx hb dM_find_106 (by decide) (fun c9 => absurd c9 (by decide)) (fun _ => ?_)
    refine lv_iload_n hx hb dM_find_109 rfl (lv_at hl 4 rfl) ?_
    refine nr_if_ge (tgt := 115) hx hb (a1 := K) (by omega) dM_find_110 (by decide) (fun _ => ?_) (fun c9 => absurd c9 (by omega))
    refine lv_iload_n hx hb dM_find_115 rfl (lv_at hl 1 rfl) ?_
    refine lv_istore (lv' := [(5, .int (nI (fi))), (4, .int (0)), (3, .int (nI (fi))), (2, .int (nI (Lf))), (0, .ref (r 0)), (1, .int (nI (K)))]) hx hb dM_find_116 hl (by decide) rfl (fun ls hl => ?_)
    refine lv_iconst (v := 0) hx hb dM_find_118 (by decide) ?_
    refine lv_istore (lv' := [(6, .int (0)), (5, .int (nI (fi))), (4, .int (0)), (3, .int (nI (fi))), (2, .int (nI (Lf))), (0, .ref (r 0)), (1, .int (nI (K)))]) hx hb dM_find_119 hl (by decide) rfl (fun ls hl => ?_)
    refine lv_aload_n hx hb dM_find_121 rfl (lv_at hl 5 rfl) ?_
    refine lv_iload hx hb dM_find_122 (lv_at hl 1 rfl) ?_
    refine lv_iload hx hb dM_find_124 (lv_at hl 0 rfl) ?_
    have hFc := va_free (wc := mw r cI cZ (va_up b 7 (y)) (va_up g 5 0)) hD hS hA (List.range 11) rfl
    refine va_callv (va_runV (As := [.int (nI (fi)), .int (0)]) (rest := []) ⟨hx, hb, hml, hown, hbw⟩ (tM_notes l dC dI r cI cZ cG (va_up b 7 (y)) (va_up g 5 0) H.size (0) (fi) (0) (by omega) (rfl)) (cwV 2 hbw (bw_V km_M_85 ki_yM_notes ksel_yM_notes ki_EventPatternsModel kcM_notes) rfl rfl rfl (by decide +kernel) ⟨Nat.le_of_ble_eq_true rfl, Nat.le_of_ble_eq_true rfl⟩) ⟨fun a U g mk q => by obtain ⟨q0, q1, qP, qK, qD⟩ := q; exact ⟨q0, q1, qP, va_K.moved (u := U) (U := U.calling g mk a) (Vm.Alike.refl U.vm) qK, qD⟩, va_recv hK hP (ci := 1) (q0 := 0) rfl rfl, fun U hU hW => ⟨rfl, by rw [hU], by rw [hU]; exact hP, va_K.moved hW.alike hK, hD.weaken (fun _ _ _ _ => trivial)⟩⟩ rfl rfl hl.1 rfl (lv_room (Nat.le_of_ble_eq_true rfl)) dM_find_126 ⟨Nat.le_of_ble_eq_true rfl, Nat.le_of_ble_eq_true rfl⟩) hS (fun q _ h => hFc q h) hFc (fun u t H1 locs ht hvm hq hB hz1 hk1 hS => ?_)
    obtain rfl := hq
    obtain ⟨hP1, hK1, hD1⟩ := hB
    rw [ht] at hP1
    have hP : va_P (dC, dI) cls2 (mw r cI cZ (va_up (mAdd (b) (0) (fi) (0)) 7 (y)) (va_up (va_up g 5 0) 5 (nI (0 + 1)))) H1 := hP1
    have hD : va_D A (mw r cI cZ (va_up (mAdd (b) (0) (fi) (0)) 7 (y)) (va_up (va_up g 5 0) 5 (nI (0 + 1)))) := hD1.weaken (fun _ _ _ h => hFc _ h)
    generalize H1 = H at hP hS ⊢
    refine lM_path l dC dI r cI cZ cG ev ms fi (nI K) hev h0 hm q1 ⟨Nat.le_refl _, Nat.le_refl _⟩ hx hb hml hown hbw hK hA ev fi 0 Lf 1 (mAdd b 0 fi 0) (va_up (va_up g 5 0) 5 (nI (0 + 1))) y H _ ls hg1 hg4 rfl hsy (by omega) (by omega) q2 (by omega) (by omega) q3 ?_ (lv_sub hl [4, 0, 1, 5, 6, 3] rfl) hP hD hS (fun y H locs ls hP hD hS => ?_)
    · rw [gW_c (b := b) (b2 := mAdd b 0 fi 0) (g := va_up g 5 0) (g2 := va_up (va_up g 5 0) 5 (nI (0 + 1))) (fun i hi => by unfold mAdd; rw [va_up_ne _ _ (by omega), va_up_ne _ _ (by omega)]) rfl rfl]
      unfold gF at q4
      split at q4
      · exact q4
      · omega
    refine lv_iconst (v := 1) hx hb dM_find_350 (by decide) ?_
    exact W.zret (v := 1) hx hb hr rfl (fun t ht hW => ⟨⟨1, (va_up (mPath b g ev ms fi Lf).1 7 y, (mPath b g ev ms fi Lf).2), rfl, ⟨fun h9 => (by rw [eM, hSm] at h9; cases h9), fun fi2 Lf2 h9 => by rw [eM, hSm] at h9; cases h9; exact ⟨rfl, y, rfl⟩⟩, by rw [ht]; exact hP, va_K.moved hW.alike hK, hD⟩, hS.F ht⟩) hS.2.2 dM_find_351
