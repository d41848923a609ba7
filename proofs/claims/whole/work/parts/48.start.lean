theorem lk_start {l : Launch} {s : State} {b0 : Nat} (hl9 : l.stackTraces = false) (hts : ∀ w ∈ lw_tbl, w.before #[Value.ref b0] s = true) (hgv : (Jvm.Cond.and given_1 narrow_1).before #[Value.ref b0] s = true) : xE l (fun q : Nat => s.heap.size ≤ q) s s.heap ∧ xNc s := by
  have hs := flat_of_before _ hgv
  have hbw : ∀ w ∈ bw, w.before #[Value.ref b0] s = true := fun w h => hts w (bw_l h)
  obtain ⟨c0, iS0, hKn0⟩ := u_known (C := "EventPatterns") (T := TX) (N := 16) (n := 16) hbw inX (hbw _ kn_EventPatterns)
  have hcl : s.vm.findClass "EventPatterns" = some c0 := hKn0.2.1
  have hng : ∀ w ∈ xNg, w.before #[Value.ref b0] s = true := fun w hw => hts w (by revert w hw; decide +kernel)
  have hst : ∀ z ∈ xStr, (Cond.stringRef "EventPatterns" z.1 z.2).before #[Value.ref b0] s = true := fun z hz => hts _ (by revert z hz; decide +kernel)
  refine ⟨⟨hl9, vx_Zqof (hts (.laysStatic Bundle.tN "UNASSIGNED_STACK" Bundle.steD) (by decide +kernel)) (hts (.initialized Bundle.tN) (by decide +kernel)) (hs (.isRef (.static Bundle.tN "UNASSIGNED_STACK" Bundle.steD)) (by decide +kernel)) (fun a h9 => Nat.not_le.mpr h9), vx_Zqof (hts (.laysStatic Bundle.tN "SUPPRESSED_SENTINEL" Bundle.listD) (by decide +kernel)) (hts (.initialized Bundle.tN) (by decide +kernel)) (hs (.isRef (.static Bundle.tN "SUPPRESSED_SENTINEL" Bundle.listD)) (by decide +kernel)) (fun a h9 => Nat.not_le.mpr h9), fun w hw => va_Nw.of (xNg_ot w hw) (hng w hw), fun z hz => ?_⟩, va_Nc.of (hs _ (by decide +kernel)), va_Nc.of (hs _ (by decide +kernel)), va_Nc.of (hs _ (by decide +kernel)), va_Nc.of (hs _ (by decide +kernel))⟩
  obtain ⟨k, cf, i, a, -, -, -, -, -, hev⟩ := Cond.stringRef_spec hcl (hst z hz)
  exact ⟨a, vk_R.of (hst z hz) hev⟩
set_option maxHeartbeats 4000000 in
set_option maxRecDepth 100000 in
theorem whole_start {p : Program} {e : Env} {s : State} {m : MethodId} {below : List Frame} {meth : Method} {c : Code} (l : Launch) (hl9 : l.stackTraces = false) {b0 L : Nat} {xs : Nat → Int32} (hL : L ≤ 2560) (C0 : lw_At p s m meth c b0 L xs) : W p l e room_1 s m #[Value.ref b0] below meth c s.heap [] 0 0 (lw_Z below #[Value.ref b0] s) (entryFrame m ([Value.ref b0] : List Value).toArray 7) := by
  obtain ⟨hx, hb, hr, hml, hown, hts, hX, hbl, hlocks, hgv⟩ := id C0
  have hA : ∀ q : Nat, s.heap.size ≤ q → (fun q : Nat => s.heap.size ≤ q) q := fun _ h => h
  have hbw : ∀ w ∈ bw, w.before #[Value.ref b0] s = true := fun w h => hts w (bw_l h)
  have hO : va_AOA .int s := va_AOA.of (hts (.arrayOver (.array .int)) (by decide +kernel))
  obtain ⟨hE, hNc⟩ := lk_start hl9 hts hgv
  obtain ⟨dC, dI, cI, cZ, cG, cL, hK⟩ := lk_K hbw hO
  have hKm := hK.sub (tys' := xt cI cZ cG) [0, 1, 2] rfl
  have hS : va_S (fun q : Nat => s.heap.size ≤ q) s.heap s.heap [] := va_S.rf
  have hP : va_P (dC, dI) cls2 [] s.heap := fun k q h => by simp at h
  have hD : va_D (fun q : Nat => s.heap.size ≤ q) [] := ⟨fun i j p q h => by simp at h, fun k q h => by simp at h⟩
  have hl := lv_entry ([.ref b0]) (n := 7) (Nat.le_of_ble_eq_true rfl)
  rw [lg_entry_eq]
  generalize (lg_sl ([.ref b0]) ++ List.replicate (7 - (lg_sl ([.ref b0])).length) Slot.unset).toArray = ls at hl ⊢
  have hl : lv_has ls 7 [(0, .ref b0)] := hl
  refine va_new (ci := 0) (fs := [.null, .null, .null, .int 0, .int 0, .null, .null, .null, .null, .int 0, .int 0, .int 0, .null, .null, .null, .int 0]) (C := "EventPatterns") (T := TX) (N := 16) hx hb hbw inX tyX okX hown (hbw _ kl_L_8) (hbw _ kn_EventPatterns) (hbw _ ki_EventPatterns) hK hP hD hS hA rfl (fun j hj => by rcases (show j = 0 ∨ j = 1 ∨ j = 2 ∨ j = 3 ∨ j = 4 ∨ j = 5 ∨ j = 6 ∨ j = 7 ∨ j = 8 ∨ j = 9 ∨ j = 10 ∨ j = 11 ∨ j = 12 ∨ j = 13 ∨ j = 14 ∨ j = 15 by omega) with rfl | rfl | rfl | rfl | rfl | rfl | rfl | rfl | rfl | rfl | rfl | rfl | rfl | rfl | rfl | rfl <;> rfl) (Nat.le_of_ble_eq_true rfl) (Nat.le_of_ble_eq_true rfl) dL_law_0 (fun q0 H hP hD hS => ?_)
  have hP : va_P (dC, dI) cls2 [(q0, .inr (0, [.null, .null, .null, .int 0, .int 0, .null, .null, .null, .null, .int 0, .int 0, .int 0, .null, .null, .null, .int 0]))] H := hP
  have hD : va_D (fun q : Nat => s.heap.size ≤ q) [(q0, .inr (0, [.null, .null, .null, .int 0, .int 0, .null, .null, .null, .null, .int 0, .int 0, .int 0, .null, .null, .null, .int 0]))] := hD
  refine W.widen (k := 1) (n := 16) (by omega) (by omega) ?_
  refine lv_dup hx hb dL_law_3 rfl ?_
  have hFc := va_free (wc := [(q0, .inr (0, [.null, .null, .null, .int 0, .int 0, .null, .null, .null, .null, .int 0, .int 0, .int 0, .null, .null, .null, .int 0]))]) hD hS hA [0] rfl
  refine va_callv (va_runI (As := []) (rest := [.ref q0]) ⟨hx, hb, hml, hown, hbw⟩ (tX_init l dC dI q0 cI cZ cG H.size) (cwI 0 hbw (bw_C kcX_init) rfl rfl rfl (hbw _ ki_EventPatterns) (hbw _ km_L_43) (hbw _ ki_yX_init) rfl (by decide +kernel) ⟨Nat.le_of_ble_eq_true rfl, Nat.le_of_ble_eq_true rfl⟩) ⟨fun a U g mk q => by obtain ⟨q0, q1, qP, qK, qD, qO⟩ := q; exact ⟨q0, q1, qP, va_K.moved (u := U) (U := U.calling g mk a) (Vm.Alike.refl U.vm) qK, qD, va_AOA.moved (u := U) (U := U.calling g mk a) (Vm.Alike.refl U.vm) qO⟩, fun U hU hW => ⟨rfl, by rw [hU], by rw [hU]; exact hP, va_K.moved hW.alike hKm, hD.weaken (fun _ _ _ _ => trivial), hO.moved hW.alike⟩⟩ rfl rfl hl.1 rfl (lv_room (Nat.le_of_ble_eq_true rfl)) dL_law_4 ⟨Nat.le_of_ble_eq_true rfl, Nat.le_of_ble_eq_true rfl⟩) hS (fun q _ h => hFc q h) hFc (fun q t H1 locs ht hvm hq hB hz1 hk1 hS => ?_)
  obtain ⟨hP1, hK1, hD1⟩ := hB
  rw [ht] at hP1
  subst hq
  obtain ⟨hP, hD⟩ := va_join (wr := []) (w1 := xw q cI cZ cG (fun _ _ => 0) (fun _ => 0) (fun _ _ => 0)) hP hD [0] [] rfl rfl (by decide) (by decide) hk1 hFc hP1 hD1
  have hP : va_P (dC, dI) cls2 (xw q cI cZ cG (fun _ _ => 0) (fun _ => 0) (fun _ _ => 0)) H1 := hP
  have hD : va_D (fun q : Nat => s.heap.size ≤ q) (xw q cI cZ cG (fun _ _ => 0) (fun _ => 0) (fun _ _ => 0)) := hD
  generalize H1 = H at hP hS ⊢
  refine W.widen (k := 27) (n := 212) (by omega) (by omega) ?_
  refine lv_astore_n (lv' := [(1, .ref (q 0)), (0, .ref b0)]) hx hb dL_law_7 rfl hl (by decide) rfl (fun ls hl => ?_)
  refine va_new (ci := 1) (fs := [.int 0, .int 0, .null, .null, .null, .int 0, .int 0, .int 0, .null, .null, .null, .null, .null, .int 0, .null, .null]) (C := "EventPatternsModel") (T := TM) (N := 16) hx hb hbw inM tyM okM hown (hbw _ kl_L_44) (hbw _ kn_EventPatternsModel) (hbw _ ki_EventPatternsModel) hK hP hD hS hA rfl (fun j hj => by rcases (show j = 0 ∨ j = 1 ∨ j = 2 ∨ j = 3 ∨ j = 4 ∨ j = 5 ∨ j = 6 ∨ j = 7 ∨ j = 8 ∨ j = 9 ∨ j = 10 ∨ j = 11 ∨ j = 12 ∨ j = 13 ∨ j = 14 ∨ j = 15 by omega) with rfl | rfl | rfl | rfl | rfl | rfl | rfl | rfl | rfl | rfl | rfl | rfl | rfl | rfl | rfl | rfl <;> rfl) (Nat.le_of_ble_eq_true rfl) (Nat.le_of_ble_eq_true rfl) dL_law_8 (fun q1 H hP hD hS => ?_)
  refine W.widen (k := 28) (n := 228) (by omega) (by omega) ?_
  refine lv_dup hx hb dL_law_11 rfl ?_
  have hPm := hP.sub (ws' := [(q1, .inr (1, [.int 0, .int 0, .null, .null, .null, .int 0, .int 0, .int 0, .null, .null, .null, .null, .null, .int 0, .null, .null]))]) [27] rfl
  have hDm := hD.sub (ws' := [(q1, .inr (1, [.int 0, .int 0, .null, .null, .null, .int 0, .int 0, .int 0, .null, .null, .null, .null, .null, .int 0, .null, .null]))]) [27] (by decide) rfl
  have hFm := va_free (wc := [(q1, .inr (1, [.int 0, .int 0, .null, .null, .null, .int 0, .int 0, .int 0, .null, .null, .null, .null, .null, .int 0, .null, .null]))]) hD hS hA [27] rfl
  refine va_callv (va_runI (As := []) (rest := [.ref q1]) ⟨hx, hb, hml, hown, hbw⟩ (tM_init l dC dI q1 cI cZ cG H.size) (cwI 0 hbw (bw_C kcM_init) rfl rfl rfl (hbw _ ki_EventPatternsModel) (hbw _ km_L_46) (hbw _ ki_yM_init) rfl (by decide +kernel) ⟨Nat.le_of_ble_eq_true rfl, Nat.le_of_ble_eq_true rfl⟩) ⟨fun a U g mk q => by obtain ⟨q0, q1, qP, qK, qD⟩ := q; exact ⟨q0, q1, qP, va_K.moved (u := U) (U := U.calling g mk a) (Vm.Alike.refl U.vm) qK, qD⟩, fun U hU hW => ⟨rfl, by rw [hU], by rw [hU]; exact hPm, va_K.moved hW.alike hKm, hDm.weaken (fun _ _ _ _ => trivial)⟩⟩ rfl rfl hl.1 rfl (lv_room (Nat.le_of_ble_eq_true rfl)) dL_law_12 ⟨Nat.le_of_ble_eq_true rfl, Nat.le_of_ble_eq_true rfl⟩) hS (fun q _ h => hFm q h) hFm (fun r t H1 locs ht hvm hq hB hz2 hk2 hS => ?_)
  obtain ⟨hP2, hK2, hD2⟩ := hB
  rw [ht] at hP2
  subst hq
  obtain ⟨hP, hD⟩ := va_join (wr := xw q cI cZ cG (fun _ _ => 0) (fun _ => 0) (fun _ _ => 0)) (w1 := mw r cI cZ (fun _ _ => 0) (fun _ => 0)) hP hD [27] [0, 1, 2, 3, 4, 5, 6, 7, 8, 9, 10, 11, 12, 13, 14, 15, 16, 17, 18, 19, 20, 21, 22, 23, 24, 25, 26] rfl rfl (by decide) (by decide) hk2 hFm hP2 hD2
  generalize H1 = H at hP hS ⊢
  refine W.widen (k := 38) (n := 1560) (by omega) (by omega) ?_
  refine lv_astore_n (lv' := [(2, .ref (r 0)), (1, .ref (q 0)), (0, .ref b0)]) hx hb dL_law_15 rfl hl (by decide) rfl (fun ls hl => ?_)
  refine lv_iconst (v := 1) hx hb dL_law_16 (by decide) ?_
  refine nr_newa (atype := .long) (ty := .long) (a0 := (1, .inr (.inl (fun _ => 0)))) (N' := 1) hx hb (hbw _ ka_long) rfl hK 3 rfl (fun _ h => h) hP hD hS hA (fun cA => vp_cell_l cA _ _) (by decide) (by decide) (by decide +kernel) (Nat.le_of_ble_eq_true rfl) (Nat.le_of_ble_eq_true rfl) dL_law_17 (fun o H hP hD hS => ?_)
  have hP : va_P (dC, dI) cls2 (lW q r cI cZ cG cL o (fun _ => 0) (fun _ _ => 0) (fun _ => 0) (fun _ _ => 0) (fun _ _ => 0) (fun _ => 0)) H := va_P.swap (a := []) (b := xw q cI cZ cG (fun _ _ => 0) (fun _ => 0) (fun _ _ => 0) ++ mw r cI cZ (fun _ _ => 0) (fun _ => 0)) (c := [(o, .inl (cL, 1, .inr (.inl (fun _ => 0))))]) hP
  have hD : va_D (fun q : Nat => s.heap.size ≤ q) (lW q r cI cZ cG cL o (fun _ => 0) (fun _ _ => 0) (fun _ => 0) (fun _ _ => 0) (fun _ _ => 0) (fun _ => 0)) := va_D.swap (a := []) (b := xw q cI cZ cG (fun _ _ => 0) (fun _ => 0) (fun _ _ => 0) ++ mw r cI cZ (fun _ _ => 0) (fun _ => 0)) (c := [(o, .inl (cL, 1, .inr (.inl (fun _ => 0))))]) hD
  refine W.widen (k := 39 + 3 * 0) (n := 1561 + 18 * 0) (by omega) (by omega) ?_
  refine lv_astore_n (lv' := [(3, .ref o), (2, .ref (r 0)), (1, .ref (q 0)), (0, .ref b0)]) hx hb dL_law_19 rfl hl (by decide) rfl (fun ls hl => ?_)
  refine lv_iconst (v := 0) hx hb dL_law_20 (by decide) ?_
  refine lv_istore (lv' := [(4, .int (nI (5 * 0))), (3, .ref o), (2, .ref (r 0)), (1, .ref (q 0)), (0, .ref b0)]) hx hb dL_law_21 hl (by decide) rfl (fun ls hl => ?_)
  exact lL_loop l dC dI q r cI cZ cG cL o hL C0 hK hE hNc (L + 1) 0 (fun _ => 0) (fun _ _ => 0) (fun _ => 0) (fun _ _ => 0) (fun _ _ => 0) (fun _ => 0) 0 0 0 H _ ls (by omega) (by omega) ly_init (lv_sub hl [0, 4, 3, 2, 1] rfl) hP hD hS
