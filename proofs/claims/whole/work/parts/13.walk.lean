/-! THE CLASS: walk, find -/
def xWalkG (rc : Nat → Int32 → Nat → Nat → Nat → (Nat → Nat → Int32) → (Nat → Int32) → XS) (w : Nat → Nat → Int32) (ms fi nx : Nat) (left : Int32) (pl st L : Nat) (a : Nat → Nat → Int32) (f : Nat → Int32) : XS :=
  if xMay a f fi pl nx = false then (a, f, w)
  else if left < xSame a w fi pl st nx + xNext a w ms fi pl st nx then
    (if left < xSame a w fi pl st nx then rc (nx + 1) left nx st (L + 1) (xAddA a L nx st) (va_up f 5 (nI (L + 1)))
     else rc (nx + 1) (left - xSame a w fi pl st nx) nx (st + 1) (L + 1) (xAddA a L nx (st + 1)) (va_up f 5 (nI (L + 1))))
  else rc (nx + 1) (left - (xSame a w fi pl st nx + xNext a w ms fi pl st nx)) pl st L a f
def xWalkL (w : Nat → Nat → Int32) (n ms fi : Nat) : Nat → Nat → Int32 → Nat → Nat → Nat → (Nat → Nat → Int32) → (Nat → Int32) → XS
  | 0, _, _, _, _, _, a, f => (a, f, w)
  | k + 1, nx, left, pl, st, L, a, f =>
    if nx < n then
      (if nx = pl + 1 ∧ st + 1 = ms then (if left = 0 then (a, f, w) else xWalkG (xWalkL w n ms fi k) w ms fi nx (left + Int32.ofInt (-1)) pl st L a f)
       else xWalkG (xWalkL w n ms fi k) w ms fi nx left pl st L a f)
    else (a, f, w)
section XWK
variable {rc : Nat → Int32 → Nat → Nat → Nat → (Nat → Nat → Int32) → (Nat → Int32) → XS} {w : Nat → Nat → Int32} {n ms fi k nx : Nat} {left : Int32} {pl st L : Nat} {a : Nat → Nat → Int32} {f : Nat → Int32}
theorem xWalkL_out (h : n ≤ nx) : xWalkL w n ms fi (k + 1) nx left pl st L a f = (a, f, w) := by rw [xWalkL, if_neg (by omega)]
theorem xWalkL_end (h : nx < n) (h1 : nx = pl + 1) (h2 : st + 1 = ms) (h3 : left = 0) : xWalkL w n ms fi (k + 1) nx left pl st L a f = (a, f, w) := by rw [xWalkL, if_pos h, if_pos ⟨h1, h2⟩, if_pos h3]
theorem xWalkL_go1 (h : nx < n) (h1 : ¬ (nx = pl + 1 ∧ st + 1 = ms)) : xWalkL w n ms fi (k + 1) nx left pl st L a f = xWalkG (xWalkL w n ms fi k) w ms fi nx left pl st L a f := by rw [xWalkL, if_pos h, if_neg h1]
theorem xWalkL_go2 (h : nx < n) (h1 : nx = pl + 1) (h2 : st + 1 = ms) (h3 : ¬ left = 0) : xWalkL w n ms fi (k + 1) nx left pl st L a f = xWalkG (xWalkL w n ms fi k) w ms fi nx (left + Int32.ofInt (-1)) pl st L a f := by rw [xWalkL, if_pos h, if_pos ⟨h1, h2⟩, if_neg h3]
theorem xWalkG_no (h : xMay a f fi pl nx = false) : xWalkG rc w ms fi nx left pl st L a f = (a, f, w) := by rw [xWalkG, if_pos h]
theorem xWalkG_skip (h : xMay a f fi pl nx = true) (h1 : ¬ left < xSame a w fi pl st nx + xNext a w ms fi pl st nx) : xWalkG rc w ms fi nx left pl st L a f = rc (nx + 1) (left - (xSame a w fi pl st nx + xNext a w ms fi pl st nx)) pl st L a f := by rw [xWalkG, if_neg (by rw [h]; decide), if_neg h1]
theorem xWalkG_same (h : xMay a f fi pl nx = true) (h1 : left < xSame a w fi pl st nx + xNext a w ms fi pl st nx) (h2 : left < xSame a w fi pl st nx) : xWalkG rc w ms fi nx left pl st L a f = rc (nx + 1) left nx st (L + 1) (xAddA a L nx st) (va_up f 5 (nI (L + 1))) := by rw [xWalkG, if_neg (by rw [h]; decide), if_pos h1, if_pos h2]
theorem xWalkG_next (h : xMay a f fi pl nx = true) (h1 : left < xSame a w fi pl st nx + xNext a w ms fi pl st nx) (h2 : ¬ left < xSame a w fi pl st nx) : xWalkG rc w ms fi nx left pl st L a f = rc (nx + 1) (left - xSame a w fi pl st nx) nx (st + 1) (L + 1) (xAddA a L nx (st + 1)) (va_up f 5 (nI (L + 1))) := by rw [xWalkG, if_neg (by rw [h]; decide), if_pos h1, if_neg h2]
end XWK
def xWalk (a : Nat → Nat → Int32) (f : Nat → Int32) (w : Nat → Nat → Int32) (n ms fi : Nat) (left : Int32) : XS := xWalkL w n ms fi (n + 1) (fi + 1) left fi 0 1 (xAddA a 0 fi 0) (va_up (va_up f 5 0) 5 (nI (0 + 1)))
set_option maxHeartbeats 4000000 in
set_option maxRecDepth 100000 in
theorem lX_walk (l : Launch) (dC : Nat → ClassId) (dI : Nat → Nat → Nat) (q : Nat → Nat) (cI cZ cG : ClassId) {p : Program} {e : Env} {s : State} {m : MethodId} {args : Array Value} {below : List Frame} {meth : Method} {c : Code} {Q : State → Prop} {A : Nat → Prop} (w : Nat → Nat → Int32) (n ms fi : Nat) (hn : n ≤ 16) (h0 : 1 ≤ ms) (hm : ms ≤ 5) {cells slots : Nat} (hcs : cells ≤ 0 ∧ slots ≤ 0) (hx : p.tables.exec = Jvm.exec) (hb : c.code = cX_walk) (hml : c.maxLocals = 9) (hown : s.vm.findClass "EventPatterns" = some m.cls) (hbw : ∀ w ∈ bw, w.before args s = true) (hK : va_K (dC, dI) cls2 (xt cI cZ cG) s) (hA : ∀ q : Nat, s.heap.size ≤ q → A q) :
    ∀ (k nx : Nat) (left : Int32) (pl st L : Nat) (a : Nat → Nat → Int32) (f : Nat → Int32) (H : Heap) (locs : List Loc) (ls : Array Slot), f 1 = nI n → f 4 = nI ms → f 5 = nI L → n ≤ nx + k → nx ≤ 16 → pl < nx → st < ms → L + fi ≤ nx → lv_has ls 9 [(6, .int (nI nx)), (5, .int (nI st)), (4, .int (nI pl)), (3, .int left), (0, .ref (q 0)), (1, .int (nI fi))] → va_P (dC, dI) cls2 (xw q cI cZ cG a f w) H → va_D A (xw q cI cZ cG a f w) → va_S A s.heap H locs →
      (∀ (H : Heap) (locs : List Loc) (ls : Array Slot) (pc : Nat), decode cX_walk pc = .ok (.return_, 1) → va_P (dC, dI) cls2 (xw q cI cZ cG (xWalkL w n ms fi (k + 1) nx left pl st L a f).1 (xWalkL w n ms fi (k + 1) nx left pl st L a f).2.1 (xWalkL w n ms fi (k + 1) nx left pl st L a f).2.2) H → va_D A (xw q cI cZ cG (xWalkL w n ms fi (k + 1) nx left pl st L a f).1 (xWalkL w n ms fi (k + 1) nx left pl st L a f).2.1 (xWalkL w n ms fi (k + 1) nx left pl st L a f).2.2) → va_S A s.heap H locs → W p l e ({ frames := 2, cells := 0, slots := 0, locals := 49 }) s m args below meth c H locs cells slots Q (F0 m pc ls [])) → W p l e ({ frames := 2, cells := 0, slots := 0, locals := 49 }) s m args below meth c H locs cells slots Q (F0 m 26 ls []) := by
  intro k
  induction k using Nat.strongRecOn with
  | ind k ih =>
    intro nx left pl st L a f H locs ls hf1 hf4 hf5 hk hnx hpl hst hL hl hP hD hS kk
    refine lv_iload hx hb dX_walk_26 (lv_at hl 0 rfl) ?_
    refine lv_aload_n hx hb dX_walk_28 rfl (lv_at hl 4 rfl) ?_
    refine va_get (D := (dC, dI)) (ci := 0) (v := .int (nI (n))) (C := "EventPatterns") (T := TX) (N := 16) hx hb hbw inX hown hK hP 0 rfl rfl 4 (by decide) (hbw _ kf_X_47) (fun _ h9 => h9) (congrArg (fun z => some (Value.int z)) (hf1)) dX_walk_29 ?_
    refine nr_icmp_ge (tgt := 149) hx hb (a1 := nx) (b1 := n) (by omega) (by omega) dX_walk_32 (by decide) (fun c_32 => ?_) (fun c_32 => ?_)
    · refine kk H locs ls 149 dX_walk_149 ?_ ?_ hS
      · rw [xWalkL_out c_32]; exact hP
      · rw [xWalkL_out c_32]; exact hD
    · refine lv_iload hx hb dX_walk_35 (lv_at hl 0 rfl) ?_
      refine lv_iload hx hb dX_walk_37 (lv_at hl 2 rfl) ?_
      refine lv_iconst (v := 1) hx hb dX_walk_39 (by decide) ?_
      refine nr_iadd hx hb (a1 := pl) (b1 := 1) dX_walk_40 ?_
      refine nr_icmp_ne (tgt := 61) hx hb (a1 := nx) (b1 := pl + 1) (by omega) (by omega) dX_walk_41 (by decide) (fun c_41 => ?_) (fun c_41 => ?_)
      · have eg : xWalkL w n ms fi (k + 1) nx left pl st L a f = xWalkG (xWalkL w n ms fi k) w ms fi nx (left) pl st L a f := by first | exact xWalkL_go1 (by omega) (fun h => c_41 h.1) | exact xWalkL_go1 (by omega) (fun h => of_decide_eq_false c_50 h.2)
        refine lv_aload_n hx hb dX_walk_61 rfl (lv_at hl 4 rfl) ?_
        refine lv_iload_n hx hb dX_walk_62 rfl (lv_at hl 5 rfl) ?_
        refine lv_iload hx hb dX_walk_63 (lv_at hl 2 rfl) ?_
        refine lv_iload hx hb dX_walk_65 (lv_at hl 0 rfl) ?_
        refine vp_callSi (W.runV (As := [.int (nI (fi)), .int (nI (pl)), .int (nI (nx))]) (rest := []) ⟨hx, hb, hml, hown, hbw⟩ (tX_mayFollow l dC dI q cI cZ cG (a) (f) w (fi) (pl) (nx) (by omega) (by omega) (by omega)) (cwV 3 hbw (bw_V km_X_138 ki_yX_mayFollow ksel_yX_mayFollow ki_EventPatterns kcX_mayFollow) rfl rfl rfl (by decide +kernel) ⟨Nat.le_of_ble_eq_true rfl, Nat.le_of_ble_eq_true rfl⟩) ⟨fun a U g mk q => by obtain ⟨q0, qP, qK⟩ := q; exact ⟨q0, qP, va_K.moved (u := U) (U := U.calling g mk a) (Vm.Alike.refl U.vm) qK⟩, va_recv hK hP (ci := 0) (q0 := 0) rfl rfl, fun U hU hW => ⟨rfl, by rw [hU]; exact hP, va_K.moved hW.alike hK⟩⟩ rfl rfl hl.1 rfl (lv_room (Nat.le_of_ble_eq_true rfl)) dX_walk_67 ⟨hcs.1, hcs.2⟩) (fun r_67 hq => ?_)
        subst hq
        refine nr_ifb_ne (tgt := 74) hx hb (b := (xMay (a) (f) (fi) (pl) (nx))) dX_walk_70 (by decide) (fun c_70 => ?_) (fun c_70 => ?_)
        · refine lv_aload_n hx hb dX_walk_74 rfl (lv_at hl 4 rfl) ?_
          refine lv_iload_n hx hb dX_walk_75 rfl (lv_at hl 5 rfl) ?_
          refine lv_iload hx hb dX_walk_76 (lv_at hl 2 rfl) ?_
          refine lv_iload hx hb dX_walk_78 (lv_at hl 1 rfl) ?_
          refine lv_iload hx hb dX_walk_80 (lv_at hl 0 rfl) ?_
          refine vp_callSi (W.runV (As := [.int (nI (fi)), .int (nI (pl)), .int (nI (st)), .int (nI (nx))]) (rest := []) ⟨hx, hb, hml, hown, hbw⟩ (tX_waysBySameStep l dC dI q cI cZ cG (a) (f) w (fi) (pl) (st) (nx) (by omega) (by omega) (by omega) (by omega)) (cwV 4 hbw (bw_V km_X_142 ki_yX_waysBySameStep ksel_yX_waysBySameStep ki_EventPatterns kcX_waysBySameStep) rfl rfl rfl (by decide +kernel) ⟨Nat.le_of_ble_eq_true rfl, Nat.le_of_ble_eq_true rfl⟩) ⟨fun a U g mk q => by obtain ⟨q0, qP, qK⟩ := q; exact ⟨q0, qP, va_K.moved (u := U) (U := U.calling g mk a) (Vm.Alike.refl U.vm) qK⟩, va_recv hK hP (ci := 0) (q0 := 0) rfl rfl, fun U hU hW => ⟨rfl, by rw [hU]; exact hP, va_K.moved hW.alike hK⟩⟩ rfl rfl hl.1 rfl (lv_room (Nat.le_of_ble_eq_true rfl)) dX_walk_82 ⟨hcs.1, hcs.2⟩) (fun r_82 hq => ?_)
          subst hq
          refine lv_istore (lv' := [(7, .int (xSame (a) w (fi) (pl) (st) (nx))), (6, .int (nI (nx))), (5, .int (nI (st))), (4, .int (nI (pl))), (3, .int (left)), (0, .ref (q 0)), (1, .int (nI (fi)))]) hx hb dX_walk_85 hl (by decide) rfl (fun ls hl => ?_)
          refine lv_iload hx hb dX_walk_87 (lv_at hl 0 rfl) ?_
          refine lv_aload_n hx hb dX_walk_89 rfl (lv_at hl 5 rfl) ?_
          refine lv_iload_n hx hb dX_walk_90 rfl (lv_at hl 6 rfl) ?_
          refine lv_iload hx hb dX_walk_91 (lv_at hl 3 rfl) ?_
          refine lv_iload hx hb dX_walk_93 (lv_at hl 2 rfl) ?_
          refine lv_iload hx hb dX_walk_95 (lv_at hl 1 rfl) ?_
          refine vp_callSi (W.runV (As := [.int (nI (fi)), .int (nI (pl)), .int (nI (st)), .int (nI (nx))]) (rest := [.int (xSame (a) w (fi) (pl) (st) (nx))]) ⟨hx, hb, hml, hown, hbw⟩ (tX_waysByNextStep l dC dI q cI cZ cG (a) (f) w ms (fi) (pl) (st) (nx) h0 hm hf4 (by omega) (by omega) (by omega) (by omega)) (cwV 4 hbw (bw_V km_X_145 ki_yX_waysByNextStep ksel_yX_waysByNextStep ki_EventPatterns kcX_waysByNextStep) rfl rfl rfl (by decide +kernel) ⟨Nat.le_of_ble_eq_true rfl, Nat.le_of_ble_eq_true rfl⟩) ⟨fun a U g mk q => by obtain ⟨q0, qP, qK⟩ := q; exact ⟨q0, qP, va_K.moved (u := U) (U := U.calling g mk a) (Vm.Alike.refl U.vm) qK⟩, va_recv hK hP (ci := 0) (q0 := 0) rfl rfl, fun U hU hW => ⟨rfl, by rw [hU]; exact hP, va_K.moved hW.alike hK⟩⟩ rfl rfl hl.1 rfl (lv_room (Nat.le_of_ble_eq_true rfl)) dX_walk_97 ⟨hcs.1, hcs.2⟩) (fun r_97 hq => ?_)
          subst hq
          refine lv_iadd hx hb dX_walk_100 ?_
          refine lv_istore (lv' := [(8, .int ((xSame (a) w (fi) (pl) (st) (nx)) + (xNext (a) w ms (fi) (pl) (st) (nx)))), (7, .int (xSame (a) w (fi) (pl) (st) (nx))), (6, .int (nI (nx))), (5, .int (nI (st))), (4, .int (nI (pl))), (3, .int (left)), (0, .ref (q 0)), (1, .int (nI (fi)))]) hx hb dX_walk_101 hl (by decide) rfl (fun ls hl => ?_)
          refine lv_iload_n hx hb dX_walk_103 rfl (lv_at hl 5 rfl) ?_
          refine lv_iload hx hb dX_walk_104 (lv_at hl 0 rfl) ?_
          refine lv_icmp_lt (tgt := 117) hx hb dX_walk_106 (by decide) (fun c_106 => ?_) (fun c_106 => ?_)
          · refine lv_iload_n hx hb dX_walk_117 rfl (lv_at hl 5 rfl) ?_
            refine lv_iload hx hb dX_walk_118 (lv_at hl 1 rfl) ?_
            refine lv_icmp_lt (tgt := 131) hx hb dX_walk_120 (by decide) (fun c_120 => ?_) (fun c_120 => ?_)
            · refine lv_iload hx hb dX_walk_131 (lv_at hl 2 rfl) ?_
              refine lv_istore (lv' := [(4, .int (nI (nx))), (8, .int ((xSame (a) w (fi) (pl) (st) (nx)) + (xNext (a) w ms (fi) (pl) (st) (nx)))), (7, .int (xSame (a) w (fi) (pl) (st) (nx))), (6, .int (nI (nx))), (5, .int (nI (st))), (3, .int (left)), (0, .ref (q 0)), (1, .int (nI (fi)))]) hx hb dX_walk_133 hl (by decide) rfl (fun ls hl => ?_)
              refine lv_aload_n hx hb dX_walk_135 rfl (lv_at hl 6 rfl) ?_
              refine lv_iload hx hb dX_walk_136 (lv_at hl 0 rfl) ?_
              refine lv_iload hx hb dX_walk_138 (lv_at hl 4 rfl) ?_
              have hFc := va_free (wc := xw q cI cZ cG (a) (f) (w)) hD hS hA (List.range 27) rfl
              refine va_callv (va_runV (As := [.int (nI (nx)), .int (nI (st))]) (rest := []) ⟨hx, hb, hml, hown, hbw⟩ (tX_addFound l dC dI q cI cZ cG (a) (f) w H.size (L) (nx) (st) (by omega) (hf5)) (cwV 2 hbw (bw_V km_X_152 ki_yX_addFound ksel_yX_addFound ki_EventPatterns kcX_addFound) rfl rfl rfl (by decide +kernel) ⟨Nat.le_of_ble_eq_true rfl, Nat.le_of_ble_eq_true rfl⟩) ⟨fun a U g mk q => by obtain ⟨q0, q1, qP, qK, qD⟩ := q; exact ⟨q0, q1, qP, va_K.moved (u := U) (U := U.calling g mk a) (Vm.Alike.refl U.vm) qK, qD⟩, va_recv hK hP (ci := 0) (q0 := 0) rfl rfl, fun U hU hW => ⟨rfl, by rw [hU], by rw [hU]; exact hP, va_K.moved hW.alike hK, hD.weaken (fun _ _ _ _ => trivial)⟩⟩ rfl rfl hl.1 rfl (lv_room (Nat.le_of_ble_eq_true rfl)) dX_walk_140 ⟨hcs.1, hcs.2⟩) hS (fun q _ h => hFc q h) hFc (fun u t H1 locs ht hvm hq hB hz1 hk1 hS => ?_)
              rw [if_pos (by omega)] at hq
              obtain rfl := hq
              obtain ⟨hP1, hK1, hD1⟩ := hB
              rw [ht] at hP1
              have hP : va_P (dC, dI) cls2 (xw q cI cZ cG (xAddA (a) (L) (nx) (st)) (va_up (f) 5 (nI (L + 1))) (w)) H1 := hP1
              have hD : va_D A (xw q cI cZ cG (xAddA (a) (L) (nx) (st)) (va_up (f) 5 (nI (L + 1))) (w)) := hD1.weaken (fun _ _ _ h => hFc _ h)
              generalize H1 = H at hP hS ⊢
              refine lv_iinc (v := nI (nx + 1)) (lv' := [(6, .int (nI (nx + 1))), (4, .int (nI (nx))), (8, .int ((xSame (a) w (fi) (pl) (st) (nx)) + (xNext (a) w ms (fi) (pl) (st) (nx)))), (7, .int (xSame (a) w (fi) (pl) (st) (nx))), (5, .int (nI (st))), (3, .int (left)), (0, .ref (q 0)), (1, .int (nI (fi)))]) hx hb dX_walk_143 hl (k := 3) rfl (nI_1 _) (by decide) rfl (fun ls hl => ?_)
              refine lv_goto (tgt := 26) hx hb dX_walk_146 (by decide) ?_
              refine ih (k - 1) (by omega) (nx + 1) _ (nx) (st) (L + 1) (xAddA (a) (L) (nx) (st)) (va_up (f) 5 (nI (L + 1))) _ _ ls hf1 hf4 rfl (by omega) (by omega) (by omega) (by omega) (by omega) (lv_sub hl [0, 4, 1, 5, 6, 7] rfl) hP hD hS (fun H locs ls pc hd hP hD hS => kk H locs ls pc hd ?_ ?_ hS)
              · rw [eg, xWalkG_same c_70 c_106 c_120]
                rw [show k - 1 + 1 = k from by omega] at hP
                exact hP
              · rw [eg, xWalkG_same c_70 c_106 c_120]
                rw [show k - 1 + 1 = k from by omega] at hD
                exact hD
            · have hst2 : st + 1 < ms := by
                rcases Nat.lt_or_ge (st + 1) ms with h9 | h9
                · exact h9
                · exfalso
                  have e0 : xNext a w ms fi pl st nx = 0 := by rw [xNext, if_pos (Or.inl (by omega))]
                  rw [e0, Int32.add_zero] at c_106
                  exact c_120 c_106
              refine lv_iload_n hx hb dX_walk_123 rfl (lv_at hl 5 rfl) ?_
              refine lv_iload hx hb dX_walk_124 (lv_at hl 1 rfl) ?_
              refine lv_isub hx hb dX_walk_126 ?_
              refine lv_istore_n (lv' := [(3, .int ((left) - (xSame (a) w (fi) (pl) (st) (nx)))), (8, .int ((xSame (a) w (fi) (pl) (st) (nx)) + (xNext (a) w ms (fi) (pl) (st) (nx)))), (7, .int (xSame (a) w (fi) (pl) (st) (nx))), (6, .int (nI (nx))), (5, .int (nI (st))), (4, .int (nI (pl))), (0, .ref (q 0)), (1, .int (nI (fi)))]) hx hb dX_walk_127 rfl hl (by decide) rfl (fun ls hl => ?_)
              refine lv_iinc (v := nI (st + 1)) (lv' := [(5, .int (nI (st + 1))), (3, .int ((left) - (xSame (a) w (fi) (pl) (st) (nx)))), (8, .int ((xSame (a) w (fi) (pl) (st) (nx)) + (xNext (a) w ms (fi) (pl) (st) (nx)))), (7, .int (xSame (a) w (fi) (pl) (st) (nx))), (6, .int (nI (nx))), (4, .int (nI (pl))), (0, .ref (q 0)), (1, .int (nI (fi)))]) hx hb dX_walk_128 hl (k := 4) rfl (nI_1 _) (by decide) rfl (fun ls hl => ?_)
              refine lv_iload hx hb dX_walk_131 (lv_at hl 4 rfl) ?_
              refine lv_istore (lv' := [(4, .int (nI (nx))), (5, .int (nI (st + 1))), (3, .int ((left) - (xSame (a) w (fi) (pl) (st) (nx)))), (8, .int ((xSame (a) w (fi) (pl) (st) (nx)) + (xNext (a) w ms (fi) (pl) (st) (nx)))), (7, .int (xSame (a) w (fi) (pl) (st) (nx))), (6, .int (nI (nx))), (0, .ref (q 0)), (1, .int (nI (fi)))]) hx hb dX_walk_133 hl (by decide) rfl (fun ls hl => ?_)
              refine lv_aload_n hx hb dX_walk_135 rfl (lv_at hl 6 rfl) ?_
              refine lv_iload hx hb dX_walk_136 (lv_at hl 0 rfl) ?_
              refine lv_iload hx hb dX_walk_138 (lv_at hl 1 rfl) ?_
              have hFc := va_free (wc := xw q cI cZ cG (a) (f) (w)) hD hS hA (List.range 27) rfl
              refine va_callv (va_runV (As := [.int (nI (nx)), .int (nI (st + 1))]) (rest := []) ⟨hx, hb, hml, hown, hbw⟩ (tX_addFound l dC dI q cI cZ cG (a) (f) w H.size (L) (nx) (st + 1) (by omega) (hf5)) (cwV 2 hbw (bw_V km_X_152 ki_yX_addFound ksel_yX_addFound ki_EventPatterns kcX_addFound) rfl rfl rfl (by decide +kernel) ⟨Nat.le_of_ble_eq_true rfl, Nat.le_of_ble_eq_true rfl⟩) ⟨fun a U g mk q => by obtain ⟨q0, q1, qP, qK, qD⟩ := q; exact ⟨q0, q1, qP, va_K.moved (u := U) (U := U.calling g mk a) (Vm.Alike.refl U.vm) qK, qD⟩, va_recv hK hP (ci := 0) (q0 := 0) rfl rfl, fun U hU hW => ⟨rfl, by rw [hU], by rw [hU]; exact hP, va_K.moved hW.alike hK, hD.weaken (fun _ _ _ _ => trivial)⟩⟩ rfl rfl hl.1 rfl (lv_room (Nat.le_of_ble_eq_true rfl)) dX_walk_140 ⟨hcs.1, hcs.2⟩) hS (fun q _ h => hFc q h) hFc (fun u t H1 locs ht hvm hq hB hz1 hk1 hS => ?_)
              rw [if_pos (by omega)] at hq
              obtain rfl := hq
              obtain ⟨hP1, hK1, hD1⟩ := hB
              rw [ht] at hP1
              have hP : va_P (dC, dI) cls2 (xw q cI cZ cG (xAddA (a) (L) (nx) (st + 1)) (va_up (f) 5 (nI (L + 1))) (w)) H1 := hP1
              have hD : va_D A (xw q cI cZ cG (xAddA (a) (L) (nx) (st + 1)) (va_up (f) 5 (nI (L + 1))) (w)) := hD1.weaken (fun _ _ _ h => hFc _ h)
              generalize H1 = H at hP hS ⊢
              refine lv_iinc (v := nI (nx + 1)) (lv' := [(6, .int (nI (nx + 1))), (4, .int (nI (nx))), (5, .int (nI (st + 1))), (3, .int ((left) - (xSame (a) w (fi) (pl) (st) (nx)))), (8, .int ((xSame (a) w (fi) (pl) (st) (nx)) + (xNext (a) w ms (fi) (pl) (st) (nx)))), (7, .int (xSame (a) w (fi) (pl) (st) (nx))), (0, .ref (q 0)), (1, .int (nI (fi)))]) hx hb dX_walk_143 hl (k := 5) rfl (nI_1 _) (by decide) rfl (fun ls hl => ?_)
              refine lv_goto (tgt := 26) hx hb dX_walk_146 (by decide) ?_
              refine ih (k - 1) (by omega) (nx + 1) _ (nx) (st + 1) (L + 1) (xAddA (a) (L) (nx) (st + 1)) (va_up (f) 5 (nI (L + 1))) _ _ ls hf1 hf4 rfl (by omega) (by omega) (by omega) (by omega) (by omega) (lv_sub hl [0, 2, 1, 3, 6, 7] rfl) hP hD hS (fun H locs ls pc hd hP hD hS => kk H locs ls pc hd ?_ ?_ hS)
              · rw [eg, xWalkG_next c_70 c_106 c_120]
                rw [show k - 1 + 1 = k from by omega] at hP
                exact hP
              · rw [eg, xWalkG_next c_70 c_106 c_120]
                rw [show k - 1 + 1 = k from by omega] at hD
                exact hD
          · refine lv_iload_n hx hb dX_walk_109 rfl (lv_at hl 5 rfl) ?_
            refine lv_iload hx hb dX_walk_110 (lv_at hl 0 rfl) ?_
            refine lv_isub hx hb dX_walk_112 ?_
            refine lv_istore_n (lv' := [(3, .int ((left) - ((xSame (a) w (fi) (pl) (st) (nx)) + (xNext (a) w ms (fi) (pl) (st) (nx))))), (8, .int ((xSame (a) w (fi) (pl) (st) (nx)) + (xNext (a) w ms (fi) (pl) (st) (nx)))), (7, .int (xSame (a) w (fi) (pl) (st) (nx))), (6, .int (nI (nx))), (5, .int (nI (st))), (4, .int (nI (pl))), (0, .ref (q 0)), (1, .int (nI (fi)))]) hx hb dX_walk_113 rfl hl (by decide) rfl (fun ls hl => ?_)
            refine lv_goto (tgt := 143) hx hb dX_walk_114 (by decide) ?_
            refine lv_iinc (v := nI (nx + 1)) (lv' := [(6, .int (nI (nx + 1))), (3, .int ((left) - ((xSame (a) w (fi) (pl) (st) (nx)) + (xNext (a) w ms (fi) (pl) (st) (nx))))), (8, .int ((xSame (a) w (fi) (pl) (st) (nx)) + (xNext (a) w ms (fi) (pl) (st) (nx)))), (7, .int (xSame (a) w (fi) (pl) (st) (nx))), (5, .int (nI (st))), (4, .int (nI (pl))), (0, .ref (q 0)), (1, .int (nI (fi)))]) hx hb dX_walk_143 hl (k := 3) rfl (nI_1 _) (by decide) rfl (fun ls hl => ?_)
            refine lv_goto (tgt := 26) hx hb dX_walk_146 (by decide) ?_
            refine ih (k - 1) (by omega) (nx + 1) _ (pl) (st) L (a) (f) _ _ ls hf1 hf4 hf5 (by omega) (by omega) (by omega) (by omega) (by omega) (lv_sub hl [0, 4, 5, 1, 6, 7] rfl) hP hD hS (fun H locs ls pc hd hP hD hS => kk H locs ls pc hd ?_ ?_ hS)
            · rw [eg, xWalkG_skip c_70 c_106]
              rw [show k - 1 + 1 = k from by omega] at hP
              exact hP
            · rw [eg, xWalkG_skip c_70 c_106]
              rw [show k - 1 + 1 = k from by omega] at hD
              exact hD
        · refine kk H locs ls 73 dX_walk_73 ?_ ?_ hS
          · rw [eg, xWalkG_no c_70]; exact hP
          · rw [eg, xWalkG_no c_70]; exact hD
      · refine lv_aload_n hx hb dX_walk_44 rfl (lv_at hl 4 rfl) ?_
        refine lv_iload hx hb dX_walk_45 (lv_at hl 1 rfl) ?_
        refine vp_callSi (W.runV (As := [.int (nI (st))]) (rest := []) ⟨hx, hb, hml, hown, hbw⟩ (tX_isLastStep l dC dI q cI cZ cG (a) (f) w ms (st) h0 hm hf4 (by omega)) (cwV 1 hbw (bw_V km_X_135 ki_yX_isLastStep ksel_yX_isLastStep ki_EventPatterns kcX_isLastStep) rfl rfl rfl (by decide +kernel) ⟨Nat.le_of_ble_eq_true rfl, Nat.le_of_ble_eq_true rfl⟩) ⟨fun a U g mk q => by obtain ⟨q0, qP, qK⟩ := q; exact ⟨q0, qP, va_K.moved (u := U) (U := U.calling g mk a) (Vm.Alike.refl U.vm) qK⟩, va_recv hK hP (ci := 0) (q0 := 0) rfl rfl, fun U hU hW => ⟨rfl, by rw [hU]; exact hP, va_K.moved hW.alike hK⟩⟩ rfl rfl hl.1 rfl (lv_room (Nat.le_of_ble_eq_true rfl)) dX_walk_47 ⟨hcs.1, hcs.2⟩) (fun r_47 hq => ?_)
        subst hq
        refine nr_ifb_eq (tgt := 61) hx hb (b := (decide ((st) + 1 = ms))) dX_walk_50 (by decide) (fun c_50 => ?_) (fun c_50 => ?_)
        · have eg : xWalkL w n ms fi (k + 1) nx left pl st L a f = xWalkG (xWalkL w n ms fi k) w ms fi nx (left) pl st L a f := by first | exact xWalkL_go1 (by omega) (fun h => c_41 h.1) | exact xWalkL_go1 (by omega) (fun h => of_decide_eq_false c_50 h.2)
          refine lv_aload_n hx hb dX_walk_61 rfl (lv_at hl 4 rfl) ?_
          refine lv_iload_n hx hb dX_walk_62 rfl (lv_at hl 5 rfl) ?_
          refine lv_iload hx hb dX_walk_63 (lv_at hl 2 rfl) ?_
          refine lv_iload hx hb dX_walk_65 (lv_at hl 0 rfl) ?_
          refine vp_callSi (W.runV (As := [.int (nI (fi)), .int (nI (pl)), .int (nI (nx))]) (rest := []) ⟨hx, hb, hml, hown, hbw⟩ (tX_mayFollow l dC dI q cI cZ cG (a) (f) w (fi) (pl) (nx) (by omega) (by omega) (by omega)) (cwV 3 hbw (bw_V km_X_138 ki_yX_mayFollow ksel_yX_mayFollow ki_EventPatterns kcX_mayFollow) rfl rfl rfl (by decide +kernel) ⟨Nat.le_of_ble_eq_true rfl, Nat.le_of_ble_eq_true rfl⟩) ⟨fun a U g mk q => by obtain ⟨q0, qP, qK⟩ := q; exact ⟨q0, qP, va_K.moved (u := U) (U := U.calling g mk a) (Vm.Alike.refl U.vm) qK⟩, va_recv hK hP (ci := 0) (q0 := 0) rfl rfl, fun U hU hW => ⟨rfl, by rw [hU]; exact hP, va_K.moved hW.alike hK⟩⟩ rfl rfl hl.1 rfl (lv_room (Nat.le_of_ble_eq_true rfl)) dX_walk_67 ⟨hcs.1, hcs.2⟩) (fun r_67 hq => ?_)
          subst hq
          refine nr_ifb_ne (tgt := 74) hx hb (b := (xMay (a) (f) (fi) (pl) (nx))) dX_walk_70 (by decide) (fun c_70 => ?_) (fun c_70 => ?_)
          · refine lv_aload_n hx hb dX_walk_74 rfl (lv_at hl 4 rfl) ?_
            refine lv_iload_n hx hb dX_walk_75 rfl (lv_at hl 5 rfl) ?_
            refine lv_iload hx hb dX_walk_76 (lv_at hl 2 rfl) ?_
            refine lv_iload hx hb dX_walk_78 (lv_at hl 1 rfl) ?_
            refine lv_iload hx hb dX_walk_80 (lv_at hl 0 rfl) ?_
            refine vp_callSi (W.runV (As := [.int (nI (fi)), .int (nI (pl)), .int (nI (st)), .int (nI (nx))]) (rest := []) ⟨hx, hb, hml, hown, hbw⟩ (tX_waysBySameStep l dC dI q cI cZ cG (a) (f) w (fi) (pl) (st) (nx) (by omega) (by omega) (by omega) (by omega)) (cwV 4 hbw (bw_V km_X_142 ki_yX_waysBySameStep ksel_yX_waysBySameStep ki_EventPatterns kcX_waysBySameStep) rfl rfl rfl (by decide +kernel) ⟨Nat.le_of_ble_eq_true rfl, Nat.le_of_ble_eq_true rfl⟩) ⟨fun a U g mk q => by obtain ⟨q0, qP, qK⟩ := q; exact ⟨q0, qP, va_K.moved (u := U) (U := U.calling g mk a) (Vm.Alike.refl U.vm) qK⟩, va_recv hK hP (ci := 0) (q0 := 0) rfl rfl, fun U hU hW => ⟨rfl, by rw [hU]; exact hP, va_K.moved hW.alike hK⟩⟩ rfl rfl hl.1 rfl (lv_room (Nat.le_of_ble_eq_true rfl)) dX_walk_82 ⟨hcs.1, hcs.2⟩) (fun r_82 hq => ?_)
            subst hq
            refine lv_istore (lv' := [(7, .int (xSame (a) w (fi) (pl) (st) (nx))), (6, .int (nI (nx))), (5, .int (nI (st))), (4, .int (nI (pl))), (3, .int (left)), (0, .ref (q 0)), (1, .int (nI (fi)))]) hx hb dX_walk_85 hl (by decide) rfl (fun ls hl => ?_)
            refine lv_iload hx hb dX_walk_87 (lv_at hl 0 rfl) ?_
            refine lv_aload_n hx hb dX_walk_89 rfl (lv_at hl 5 rfl) ?_
            refine lv_iload_n hx hb dX_walk_90 rfl (lv_at hl 6 rfl) ?_
            refine lv_iload hx hb dX_walk_91 (lv_at hl 3 rfl) ?_
            refine lv_iload hx hb dX_walk_93 (lv_at hl 2 rfl) ?_
            refine lv_iload hx hb dX_walk_95 (lv_at hl 1 rfl) ?_
            refine vp_callSi (W.runV (As := [.int (nI (fi)), .int (nI (pl)), .int (nI (st)), .int (nI (nx))]) (rest := [.int (xSame (a) w (fi) (pl) (st) (nx))]) ⟨hx, hb, hml, hown, hbw⟩ (tX_waysByNextStep l dC dI q cI cZ cG (a) (f) w ms (fi) (pl) (st) (nx) h0 hm hf4 (by omega) (by omega) (by omega) (by omega)) (cwV 4 hbw (bw_V km_X_145 ki_yX_waysByNextStep ksel_yX_waysByNextStep ki_EventPatterns kcX_waysByNextStep) rfl rfl rfl (by decide +kernel) ⟨Nat.le_of_ble_eq_true rfl, Nat.le_of_ble_eq_true rfl⟩) ⟨fun a U g mk q => by obtain ⟨q0, qP, qK⟩ := q; exact ⟨q0, qP, va_K.moved (u := U) (U := U.calling g mk a) (Vm.Alike.refl U.vm) qK⟩, va_recv hK hP (ci := 0) (q0 := 0) rfl rfl, fun U hU hW => ⟨rfl, by rw [hU]; exact hP, va_K.moved hW.alike hK⟩⟩ rfl rfl hl.1 rfl (lv_room (Nat.le_of_ble_eq_true rfl)) dX_walk_97 ⟨hcs.1, hcs.2⟩) (fun r_97 hq => ?_)
            subst hq
            refine lv_iadd hx hb dX_walk_100 ?_
            refine lv_istore (lv' := [(8, .int ((xSame (a) w (fi) (pl) (st) (nx)) + (xNext (a) w ms (fi) (pl) (st) (nx)))), (7, .int (xSame (a) w (fi) (pl) (st) (nx))), (6, .int (nI (nx))), (5, .int (nI (st))), (4, .int (nI (pl))), (3, .int (left)), (0, .ref (q 0)), (1, .int (nI (fi)))]) hx hb dX_walk_101 hl (by decide) rfl (fun ls hl => ?_)
            refine lv_iload_n hx hb dX_walk_103 rfl (lv_at hl 5 rfl) ?_
            refine lv_iload hx hb dX_walk_104 (lv_at hl 0 rfl) ?_
            refine lv_icmp_lt (tgt := 117) hx hb dX_walk_106 (by decide) (fun c_106 => ?_) (fun c_106 => ?_)
            · refine lv_iload_n hx hb dX_walk_117 rfl (lv_at hl 5 rfl) ?_
              refine lv_iload hx hb dX_walk_118 (lv_at hl 1 rfl) ?_
              refine lv_icmp_lt (tgt := 131) hx hb dX_walk_120 (by decide) (fun c_120 => ?_) (fun c_120 => ?_)
              · refine lv_iload hx hb dX_walk_131 (lv_at hl 2 rfl) ?_
                refine lv_istore (lv' := [(4, .int (nI (nx))), (8, .int ((xSame (a) w (fi) (pl) (st) (nx)) + (xNext (a) w ms (fi) (pl) (st) (nx)))), (7, .int (xSame (a) w (fi) (pl) (st) (nx))), (6, .int (nI (nx))), (5, .int (nI (st))), (3, .int (left)), (0, .ref (q 0)), (1, .int (nI (fi)))]) hx hb dX_walk_133 hl (by decide) rfl (fun ls hl => ?_)
                refine lv_aload_n hx hb dX_walk_135 rfl (lv_at hl 6 rfl) ?_
                refine lv_iload hx hb dX_walk_136 (lv_at hl 0 rfl) ?_
                refine lv_iload hx hb dX_walk_138 (lv_at hl 4 rfl) ?_
                have hFc := va_free (wc := xw q cI cZ cG (a) (f) (w)) hD hS hA (List.range 27) rfl
                refine va_callv (va_runV (As := [.int (nI (nx)), .int (nI (st))]) (rest := []) ⟨hx, hb, hml, hown, hbw⟩ (tX_addFound l dC dI q cI cZ cG (a) (f) w H.size (L) (nx) (st) (by omega) (hf5)) (cwV 2 hbw (bw_V km_X_152 ki_yX_addFound ksel_yX_addFound ki_EventPatterns kcX_addFound) rfl rfl rfl (by decide +kernel) ⟨Nat.le_of_ble_eq_true rfl, Nat.le_of_ble_eq_true rfl⟩) ⟨fun a U g mk q => by obtain ⟨q0, q1, qP, qK, qD⟩ := q; exact ⟨q0, q1, qP, va_K.moved (u := U) (U := U.calling g mk a) (Vm.Alike.refl U.vm) qK, qD⟩, va_recv hK hP (ci := 0) (q0 := 0) rfl rfl, fun U hU hW => ⟨rfl, by rw [hU], by rw [hU]; exact hP, va_K.moved hW.alike hK, hD.weaken (fun _ _ _ _ => trivial)⟩⟩ rfl rfl hl.1 rfl (lv_room (Nat.le_of_ble_eq_true rfl)) dX_walk_140 ⟨hcs.1, hcs.2⟩) hS (fun q _ h => hFc q h) hFc (fun u t H1 locs ht hvm hq hB hz1 hk1 hS => ?_)
                rw [if_pos (by omega)] at hq
                obtain rfl := hq
                obtain ⟨hP1, hK1, hD1⟩ := hB
                rw [ht] at hP1
                have hP : va_P (dC, dI) cls2 (xw q cI cZ cG (xAddA (a) (L) (nx) (st)) (va_up (f) 5 (nI (L + 1))) (w)) H1 := hP1
                have hD : va_D A (xw q cI cZ cG (xAddA (a) (L) (nx) (st)) (va_up (f) 5 (nI (L + 1))) (w)) := hD1.weaken (fun _ _ _ h => hFc _ h)
                generalize H1 = H at hP hS ⊢
                refine lv_iinc (v := nI (nx + 1)) (lv' := [(6, .int (nI (nx + 1))), (4, .int (nI (nx))), (8, .int ((xSame (a) w (fi) (pl) (st) (nx)) + (xNext (a) w ms (fi) (pl) (st) (nx)))), (7, .int (xSame (a) w (fi) (pl) (st) (nx))), (5, .int (nI (st))), (3, .int (left)), (0, .ref (q 0)), (1, .int (nI (fi)))]) hx hb dX_walk_143 hl (k := 3) rfl (nI_1 _) (by decide) rfl (fun ls hl => ?_)
                refine lv_goto (tgt := 26) hx hb dX_walk_146 (by decide) ?_
                refine ih (k - 1) (by omega) (nx + 1) _ (nx) (st) (L + 1) (xAddA (a) (L) (nx) (st)) (va_up (f) 5 (nI (L + 1))) _ _ ls hf1 hf4 rfl (by omega) (by omega) (by omega) (by omega) (by omega) (lv_sub hl [0, 4, 1, 5, 6, 7] rfl) hP hD hS (fun H locs ls pc hd hP hD hS => kk H locs ls pc hd ?_ ?_ hS)
                · rw [eg, xWalkG_same c_70 c_106 c_120]
                  rw [show k - 1 + 1 = k from by omega] at hP
                  exact hP
                · rw [eg, xWalkG_same c_70 c_106 c_120]
                  rw [show k - 1 + 1 = k from by omega] at hD
                  exact hD
              · have hst2 : st + 1 < ms := by
                  rcases Nat.lt_or_ge (st + 1) ms with h9 | h9
                  · exact h9
                  · exfalso
                    have e0 : xNext a w ms fi pl st nx = 0 := by rw [xNext, if_pos (Or.inl (by omega))]
                    rw [e0, Int32.add_zero] at c_106
                    exact c_120 c_106
                refine lv_iload_n hx hb dX_walk_123 rfl (lv_at hl 5 rfl) ?_
                refine lv_iload hx hb dX_walk_124 (lv_at hl 1 rfl) ?_
                refine lv_isub hx hb dX_walk_126 ?_
                refine lv_istore_n (lv' := [(3, .int ((left) - (xSame (a) w (fi) (pl) (st) (nx)))), (8, .int ((xSame (a) w (fi) (pl) (st) (nx)) + (xNext (a) w ms (fi) (pl) (st) (nx)))), (7, .int (xSame (a) w (fi) (pl) (st) (nx))), (6, .int (nI (nx))), (5, .int (nI (st))), (4, .int (nI (pl))), (0, .ref (q 0)), (1, .int (nI (fi)))]) hx hb dX_walk_127 rfl hl (by decide) rfl (fun ls hl => ?_)
                refine lv_iinc (v := nI (st + 1)) (lv' := [(5, .int (nI (st + 1))), (3, .int ((left) - (xSame (a) w (fi) (pl) (st) (nx)))), (8, .int ((xSame (a) w (fi) (pl) (st) (nx)) + (xNext (a) w ms (fi) (pl) (st) (nx)))), (7, .int (xSame (a) w (fi) (pl) (st) (nx))), (6, .int (nI (nx))), (4, .int (nI (pl))), (0, .ref (q 0)), (1, .int (nI (fi)))]) hx hb dX_walk_128 hl (k := 4) rfl (nI_1 _) (by decide) rfl (fun ls hl => ?_)
                refine lv_iload hx hb dX_walk_131 (lv_at hl 4 rfl) ?_
                refine lv_istore (lv' := [(4, .int (nI (nx))), (5, .int (nI (st + 1))), (3, .int ((left) - (xSame (a) w (fi) (pl) (st) (nx)))), (8, .int ((xSame (a) w (fi) (pl) (st) (nx)) + (xNext (a) w ms (fi) (pl) (st) (nx)))), (7, .int (xSame (a) w (fi) (pl) (st) (nx))), (6, .int (nI (nx))), (0, .ref (q 0)), (1, .int (nI (fi)))]) hx hb dX_walk_133 hl (by decide) rfl (fun ls hl => ?_)
                refine lv_aload_n hx hb dX_walk_135 rfl (lv_at hl 6 rfl) ?_
                refine lv_iload hx hb dX_walk_136 (lv_at hl 0 rfl) ?_
                refine lv_iload hx hb dX_walk_138 (lv_at hl 1 rfl) ?_
                have hFc := va_free (wc := xw q cI cZ cG (a) (f) (w)) hD hS hA (List.range 27) rfl
                refine va_callv (va_runV (As := [.int (nI (nx)), .int (nI (st + 1))]) (rest := []) ⟨hx, hb, hml, hown, hbw⟩ (tX_addFound l dC dI q cI cZ cG (a) (f) w H.size (L) (nx) (st + 1) (by omega) (hf5)) (cwV 2 hbw (bw_V km_X_152 ki_yX_addFound ksel_yX_addFound ki_EventPatterns kcX_addFound) rfl rfl rfl (by decide +kernel) ⟨Nat.le_of_ble_eq_true rfl, Nat.le_of_ble_eq_true rfl⟩) ⟨fun a U g mk q => by obtain ⟨q0, q1, qP, qK, qD⟩ := q; exact ⟨q0, q1, qP, va_K.moved (u := U) (U := U.calling g mk a) (Vm.Alike.refl U.vm) qK, qD⟩, va_recv hK hP (ci := 0) (q0 := 0) rfl rfl, fun U hU hW => ⟨rfl, by rw [hU], by rw [hU]; exact hP, va_K.moved hW.alike hK, hD.weaken (fun _ _ _ _ => trivial)⟩⟩ rfl rfl hl.1 rfl (lv_room (Nat.le_of_ble_eq_true rfl)) dX_walk_140 ⟨hcs.1, hcs.2⟩) hS (fun q _ h => hFc q h) hFc (fun u t H1 locs ht hvm hq hB hz1 hk1 hS => ?_)
                rw [if_pos (by omega)] at hq
                obtain rfl := hq
                obtain ⟨hP1, hK1, hD1⟩ := hB
                rw [ht] at hP1
                have hP : va_P (dC, dI) cls2 (xw q cI cZ cG (xAddA (a) (L) (nx) (st + 1)) (va_up (f) 5 (nI (L + 1))) (w)) H1 := hP1
                have hD : va_D A (xw q cI cZ cG (xAddA (a) (L) (nx) (st + 1)) (va_up (f) 5 (nI (L + 1))) (w)) := hD1.weaken (fun _ _ _ h => hFc _ h)
                generalize H1 = H at hP hS ⊢
                refine lv_iinc (v := nI (nx + 1)) (lv' := [(6, .int (nI (nx + 1))), (4, .int (nI (nx))), (5, .int (nI (st + 1))), (3, .int ((left) - (xSame (a) w (fi) (pl) (st) (nx)))), (8, .int ((xSame (a) w (fi) (pl) (st) (nx)) + (xNext (a) w ms (fi) (pl) (st) (nx)))), (7, .int (xSame (a) w (fi) (pl) (st) (nx))), (0, .ref (q 0)), (1, .int (nI (fi)))]) hx hb dX_walk_143 hl (k := 5) rfl (nI_1 _) (by decide) rfl (fun ls hl => ?_)
                refine lv_goto (tgt := 26) hx hb dX_walk_146 (by decide) ?_
                refine ih (k - 1) (by omega) (nx + 1) _ (nx) (st + 1) (L + 1) (xAddA (a) (L) (nx) (st + 1)) (va_up (f) 5 (nI (L + 1))) _ _ ls hf1 hf4 rfl (by omega) (by omega) (by omega) (by omega) (by omega) (lv_sub hl [0, 2, 1, 3, 6, 7] rfl) hP hD hS (fun H locs ls pc hd hP hD hS => kk H locs ls pc hd ?_ ?_ hS)
                · rw [eg, xWalkG_next c_70 c_106 c_120]
                  rw [show k - 1 + 1 = k from by omega] at hP
                  exact hP
                · rw [eg, xWalkG_next c_70 c_106 c_120]
                  rw [show k - 1 + 1 = k from by omega] at hD
                  exact hD
            · refine lv_iload_n hx hb dX_walk_109 rfl (lv_at hl 5 rfl) ?_
              refine lv_iload hx hb dX_walk_110 (lv_at hl 0 rfl) ?_
              refine lv_isub hx hb dX_walk_112 ?_
              refine lv_istore_n (lv' := [(3, .int ((left) - ((xSame (a) w (fi) (pl) (st) (nx)) + (xNext (a) w ms (fi) (pl) (st) (nx))))), (8, .int ((xSame (a) w (fi) (pl) (st) (nx)) + (xNext (a) w ms (fi) (pl) (st) (nx)))), (7, .int (xSame (a) w (fi) (pl) (st) (nx))), (6, .int (nI (nx))), (5, .int (nI (st))), (4, .int (nI (pl))), (0, .ref (q 0)), (1, .int (nI (fi)))]) hx hb dX_walk_113 rfl hl (by decide) rfl (fun ls hl => ?_)
              refine lv_goto (tgt := 143) hx hb dX_walk_114 (by decide) ?_
              refine lv_iinc (v := nI (nx + 1)) (lv' := [(6, .int (nI (nx + 1))), (3, .int ((left) - ((xSame (a) w (fi) (pl) (st) (nx)) + (xNext (a) w ms (fi) (pl) (st) (nx))))), (8, .int ((xSame (a) w (fi) (pl) (st) (nx)) + (xNext (a) w ms (fi) (pl) (st) (nx)))), (7, .int (xSame (a) w (fi) (pl) (st) (nx))), (5, .int (nI (st))), (4, .int (nI (pl))), (0, .ref (q 0)), (1, .int (nI (fi)))]) hx hb dX_walk_143 hl (k := 3) rfl (nI_1 _) (by decide) rfl (fun ls hl => ?_)
              refine lv_goto (tgt := 26) hx hb dX_walk_146 (by decide) ?_
              refine ih (k - 1) (by omega) (nx + 1) _ (pl) (st) L (a) (f) _ _ ls hf1 hf4 hf5 (by omega) (by omega) (by omega) (by omega) (by omega) (lv_sub hl [0, 4, 5, 1, 6, 7] rfl) hP hD hS (fun H locs ls pc hd hP hD hS => kk H locs ls pc hd ?_ ?_ hS)
              · rw [eg, xWalkG_skip c_70 c_106]
                rw [show k - 1 + 1 = k from by omega] at hP
                exact hP
              · rw [eg, xWalkG_skip c_70 c_106]
                rw [show k - 1 + 1 = k from by omega] at hD
                exact hD
          · refine kk H locs ls 73 dX_walk_73 ?_ ?_ hS
            · rw [eg, xWalkG_no c_70]; exact hP
            · rw [eg, xWalkG_no c_70]; exact hD
        · refine lv_iload_n hx hb dX_walk_53 rfl (lv_at hl 3 rfl) ?_
          refine lv_if_ne (tgt := 58) hx hb dX_walk_54 (by decide) (fun c_54 => ?_) (fun c_54 => ?_)
          · refine lv_iinc (v := (left) + Int32.ofInt (-1)) (lv' := [(3, .int ((left) + Int32.ofInt (-1))), (6, .int (nI (nx))), (5, .int (nI (st))), (4, .int (nI (pl))), (0, .ref (q 0)), (1, .int (nI (fi)))]) hx hb dX_walk_58 hl (k := 3) rfl (rfl) (by decide) rfl (fun ls hl => ?_)
            have eg : xWalkL w n ms fi (k + 1) nx left pl st L a f = xWalkG (xWalkL w n ms fi k) w ms fi nx ((left) + Int32.ofInt (-1)) pl st L a f := xWalkL_go2 (by omega) c_41 (of_decide_eq_true c_50) c_54
            refine lv_aload_n hx hb dX_walk_61 rfl (lv_at hl 4 rfl) ?_
            refine lv_iload_n hx hb dX_walk_62 rfl (lv_at hl 5 rfl) ?_
            refine lv_iload hx hb dX_walk_63 (lv_at hl 3 rfl) ?_
            refine lv_iload hx hb dX_walk_65 (lv_at hl 1 rfl) ?_
            refine vp_callSi (W.runV (As := [.int (nI (fi)), .int (nI (pl)), .int (nI (nx))]) (rest := []) ⟨hx, hb, hml, hown, hbw⟩ (tX_mayFollow l dC dI q cI cZ cG (a) (f) w (fi) (pl) (nx) (by omega) (by omega) (by omega)) (cwV 3 hbw (bw_V km_X_138 ki_yX_mayFollow ksel_yX_mayFollow ki_EventPatterns kcX_mayFollow) rfl rfl rfl (by decide +kernel) ⟨Nat.le_of_ble_eq_true rfl, Nat.le_of_ble_eq_true rfl⟩) ⟨fun a U g mk q => by obtain ⟨q0, qP, qK⟩ := q; exact ⟨q0, qP, va_K.moved (u := U) (U := U.calling g mk a) (Vm.Alike.refl U.vm) qK⟩, va_recv hK hP (ci := 0) (q0 := 0) rfl rfl, fun U hU hW => ⟨rfl, by rw [hU]; exact hP, va_K.moved hW.alike hK⟩⟩ rfl rfl hl.1 rfl (lv_room (Nat.le_of_ble_eq_true rfl)) dX_walk_67 ⟨hcs.1, hcs.2⟩) (fun r_67 hq => ?_)
            subst hq
            refine nr_ifb_ne (tgt := 74) hx hb (b := (xMay (a) (f) (fi) (pl) (nx))) dX_walk_70 (by decide) (fun c_70 => ?_) (fun c_70 => ?_)
            · refine lv_aload_n hx hb dX_walk_74 rfl (lv_at hl 4 rfl) ?_
              refine lv_iload_n hx hb dX_walk_75 rfl (lv_at hl 5 rfl) ?_
              refine lv_iload hx hb dX_walk_76 (lv_at hl 3 rfl) ?_
              refine lv_iload hx hb dX_walk_78 (lv_at hl 2 rfl) ?_
              refine lv_iload hx hb dX_walk_80 (lv_at hl 1 rfl) ?_
              refine vp_callSi (W.runV (As := [.int (nI (fi)), .int (nI (pl)), .int (nI (st)), .int (nI (nx))]) (rest := []) ⟨hx, hb, hml, hown, hbw⟩ (tX_waysBySameStep l dC dI q cI cZ cG (a) (f) w (fi) (pl) (st) (nx) (by omega) (by omega) (by omega) (by omega)) (cwV 4 hbw (bw_V km_X_142 ki_yX_waysBySameStep ksel_yX_waysBySameStep ki_EventPatterns kcX_waysBySameStep) rfl rfl rfl (by decide +kernel) ⟨Nat.le_of_ble_eq_true rfl, Nat.le_of_ble_eq_true rfl⟩) ⟨fun a U g mk q => by obtain ⟨q0, qP, qK⟩ := q; exact ⟨q0, qP, va_K.moved (u := U) (U := U.calling g mk a) (Vm.Alike.refl U.vm) qK⟩, va_recv hK hP (ci := 0) (q0 := 0) rfl rfl, fun U hU hW => ⟨rfl, by rw [hU]; exact hP, va_K.moved hW.alike hK⟩⟩ rfl rfl hl.1 rfl (lv_room (Nat.le_of_ble_eq_true rfl)) dX_walk_82 ⟨hcs.1, hcs.2⟩) (fun r_82 hq => ?_)
              subst hq
              refine lv_istore (lv' := [(7, .int (xSame (a) w (fi) (pl) (st) (nx))), (3, .int ((left) + Int32.ofInt (-1))), (6, .int (nI (nx))), (5, .int (nI (st))), (4, .int (nI (pl))), (0, .ref (q 0)), (1, .int (nI (fi)))]) hx hb dX_walk_85 hl (by decide) rfl (fun ls hl => ?_)
              refine lv_iload hx hb dX_walk_87 (lv_at hl 0 rfl) ?_
              refine lv_aload_n hx hb dX_walk_89 rfl (lv_at hl 5 rfl) ?_
              refine lv_iload_n hx hb dX_walk_90 rfl (lv_at hl 6 rfl) ?_
              refine lv_iload hx hb dX_walk_91 (lv_at hl 4 rfl) ?_
              refine lv_iload hx hb dX_walk_93 (lv_at hl 3 rfl) ?_
              refine lv_iload hx hb dX_walk_95 (lv_at hl 2 rfl) ?_
              refine vp_callSi (W.runV (As := [.int (nI (fi)), .int (nI (pl)), .int (nI (st)), .int (nI (nx))]) (rest := [.int (xSame (a) w (fi) (pl) (st) (nx))]) ⟨hx, hb, hml, hown, hbw⟩ (tX_waysByNextStep l dC dI q cI cZ cG (a) (f) w ms (fi) (pl) (st) (nx) h0 hm hf4 (by omega) (by omega) (by omega) (by omega)) (cwV 4 hbw (bw_V km_X_145 ki_yX_waysByNextStep ksel_yX_waysByNextStep ki_EventPatterns kcX_waysByNextStep) rfl rfl rfl (by decide +kernel) ⟨Nat.le_of_ble_eq_true rfl, Nat.le_of_ble_eq_true rfl⟩) ⟨fun a U g mk q => by obtain ⟨q0, qP, qK⟩ := q; exact ⟨q0, qP, va_K.moved (u := U) (U := U.calling g mk a) (Vm.Alike.refl U.vm) qK⟩, va_recv hK hP (ci := 0) (q0 := 0) rfl rfl, fun U hU hW => ⟨rfl, by rw [hU]; exact hP, va_K.moved hW.alike hK⟩⟩ rfl rfl hl.1 rfl (lv_room (Nat.le_of_ble_eq_true rfl)) dX_walk_97 ⟨hcs.1, hcs.2⟩) (fun r_97 hq => ?_)
              subst hq
              refine lv_iadd hx hb dX_walk_100 ?_
              refine lv_istore (lv' := [(8, .int ((xSame (a) w (fi) (pl) (st) (nx)) + (xNext (a) w ms (fi) (pl) (st) (nx)))), (7, .int (xSame (a) w (fi) (pl) (st) (nx))), (3, .int ((left) + Int32.ofInt (-1))), (6, .int (nI (nx))), (5, .int (nI (st))), (4, .int (nI (pl))), (0, .ref (q 0)), (1, .int (nI (fi)))]) hx hb dX_walk_101 hl (by decide) rfl (fun ls hl => ?_)
              refine lv_iload_n hx hb dX_walk_103 rfl (lv_at hl 2 rfl) ?_
              refine lv_iload hx hb dX_walk_104 (lv_at hl 0 rfl) ?_
              refine lv_icmp_lt (tgt := 117) hx hb dX_walk_106 (by decide) (fun c_106 => ?_) (fun c_106 => ?_)
              · refine lv_iload_n hx hb dX_walk_117 rfl (lv_at hl 2 rfl) ?_
                refine lv_iload hx hb dX_walk_118 (lv_at hl 1 rfl) ?_
                refine lv_icmp_lt (tgt := 131) hx hb dX_walk_120 (by decide) (fun c_120 => ?_) (fun c_120 => ?_)
                · refine lv_iload hx hb dX_walk_131 (lv_at hl 3 rfl) ?_
                  refine lv_istore (lv' := [(4, .int (nI (nx))), (8, .int ((xSame (a) w (fi) (pl) (st) (nx)) + (xNext (a) w ms (fi) (pl) (st) (nx)))), (7, .int (xSame (a) w (fi) (pl) (st) (nx))), (3, .int ((left) + Int32.ofInt (-1))), (6, .int (nI (nx))), (5, .int (nI (st))), (0, .ref (q 0)), (1, .int (nI (fi)))]) hx hb dX_walk_133 hl (by decide) rfl (fun ls hl => ?_)
                  refine lv_aload_n hx hb dX_walk_135 rfl (lv_at hl 6 rfl) ?_
                  refine lv_iload hx hb dX_walk_136 (lv_at hl 0 rfl) ?_
                  refine lv_iload hx hb dX_walk_138 (lv_at hl 5 rfl) ?_
                  have hFc := va_free (wc := xw q cI cZ cG (a) (f) (w)) hD hS hA (List.range 27) rfl
                  refine va_callv (va_runV (As := [.int (nI (nx)), .int (nI (st))]) (rest := []) ⟨hx, hb, hml, hown, hbw⟩ (tX_addFound l dC dI q cI cZ cG (a) (f) w H.size (L) (nx) (st) (by omega) (hf5)) (cwV 2 hbw (bw_V km_X_152 ki_yX_addFound ksel_yX_addFound ki_EventPatterns kcX_addFound) rfl rfl rfl (by decide +kernel) ⟨Nat.le_of_ble_eq_true rfl, Nat.le_of_ble_eq_true rfl⟩) ⟨fun a U g mk q => by obtain ⟨q0, q1, qP, qK, qD⟩ := q; exact ⟨q0, q1, qP, va_K.moved (u := U) (U := U.calling g mk a) (Vm.Alike.refl U.vm) qK, qD⟩, va_recv hK hP (ci := 0) (q0 := 0) rfl rfl, fun U hU hW => ⟨rfl, by rw [hU], by rw [hU]; exact hP, va_K.moved hW.alike hK, hD.weaken (fun _ _ _ _ => trivial)⟩⟩ rfl rfl hl.1 rfl (lv_room (Nat.le_of_ble_eq_true rfl)) dX_walk_140 ⟨hcs.1, hcs.2⟩) hS (fun q _ h => hFc q h) hFc (fun u t H1 locs ht hvm hq hB hz1 hk1 hS => ?_)
                  rw [if_pos (by omega)] at hq
                  obtain rfl := hq
                  obtain ⟨hP1, hK1, hD1⟩ := hB
                  rw [ht] at hP1
                  have hP : va_P (dC, dI) cls2 (xw q cI cZ cG (xAddA (a) (L) (nx) (st)) (va_up (f) 5 (nI (L + 1))) (w)) H1 := hP1
                  have hD : va_D A (xw q cI cZ cG (xAddA (a) (L) (nx) (st)) (va_up (f) 5 (nI (L + 1))) (w)) := hD1.weaken (fun _ _ _ h => hFc _ h)
                  generalize H1 = H at hP hS ⊢
                  refine lv_iinc (v := nI (nx + 1)) (lv' := [(6, .int (nI (nx + 1))), (4, .int (nI (nx))), (8, .int ((xSame (a) w (fi) (pl) (st) (nx)) + (xNext (a) w ms (fi) (pl) (st) (nx)))), (7, .int (xSame (a) w (fi) (pl) (st) (nx))), (3, .int ((left) + Int32.ofInt (-1))), (5, .int (nI (st))), (0, .ref (q 0)), (1, .int (nI (fi)))]) hx hb dX_walk_143 hl (k := 4) rfl (nI_1 _) (by decide) rfl (fun ls hl => ?_)
                  refine lv_goto (tgt := 26) hx hb dX_walk_146 (by decide) ?_
                  refine ih (k - 1) (by omega) (nx + 1) _ (nx) (st) (L + 1) (xAddA (a) (L) (nx) (st)) (va_up (f) 5 (nI (L + 1))) _ _ ls hf1 hf4 rfl (by omega) (by omega) (by omega) (by omega) (by omega) (lv_sub hl [0, 5, 1, 4, 6, 7] rfl) hP hD hS (fun H locs ls pc hd hP hD hS => kk H locs ls pc hd ?_ ?_ hS)
                  · rw [eg, xWalkG_same c_70 c_106 c_120]
                    rw [show k - 1 + 1 = k from by omega] at hP
                    exact hP
                  · rw [eg, xWalkG_same c_70 c_106 c_120]
                    rw [show k - 1 + 1 = k from by omega] at hD
                    exact hD
                · have hst2 : st + 1 < ms := by
                    rcases Nat.lt_or_ge (st + 1) ms with h9 | h9
                    · exact h9
                    · exfalso
                      have e0 : xNext a w ms fi pl st nx = 0 := by rw [xNext, if_pos (Or.inl (by omega))]
                      rw [e0, Int32.add_zero] at c_106
                      exact c_120 c_106
                  refine lv_iload_n hx hb dX_walk_123 rfl (lv_at hl 2 rfl) ?_
                  refine lv_iload hx hb dX_walk_124 (lv_at hl 1 rfl) ?_
                  refine lv_isub hx hb dX_walk_126 ?_
                  refine lv_istore_n (lv' := [(3, .int (((left) + Int32.ofInt (-1)) - (xSame (a) w (fi) (pl) (st) (nx)))), (8, .int ((xSame (a) w (fi) (pl) (st) (nx)) + (xNext (a) w ms (fi) (pl) (st) (nx)))), (7, .int (xSame (a) w (fi) (pl) (st) (nx))), (6, .int (nI (nx))), (5, .int (nI (st))), (4, .int (nI (pl))), (0, .ref (q 0)), (1, .int (nI (fi)))]) hx hb dX_walk_127 rfl hl (by decide) rfl (fun ls hl => ?_)
                  refine lv_iinc (v := nI (st + 1)) (lv' := [(5, .int (nI (st + 1))), (3, .int (((left) + Int32.ofInt (-1)) - (xSame (a) w (fi) (pl) (st) (nx)))), (8, .int ((xSame (a) w (fi) (pl) (st) (nx)) + (xNext (a) w ms (fi) (pl) (st) (nx)))), (7, .int (xSame (a) w (fi) (pl) (st) (nx))), (6, .int (nI (nx))), (4, .int (nI (pl))), (0, .ref (q 0)), (1, .int (nI (fi)))]) hx hb dX_walk_128 hl (k := 4) rfl (nI_1 _) (by decide) rfl (fun ls hl => ?_)
                  refine lv_iload hx hb dX_walk_131 (lv_at hl 4 rfl) ?_
                  refine lv_istore (lv' := [(4, .int (nI (nx))), (5, .int (nI (st + 1))), (3, .int (((left) + Int32.ofInt (-1)) - (xSame (a) w (fi) (pl) (st) (nx)))), (8, .int ((xSame (a) w (fi) (pl) (st) (nx)) + (xNext (a) w ms (fi) (pl) (st) (nx)))), (7, .int (xSame (a) w (fi) (pl) (st) (nx))), (6, .int (nI (nx))), (0, .ref (q 0)), (1, .int (nI (fi)))]) hx hb dX_walk_133 hl (by decide) rfl (fun ls hl => ?_)
                  refine lv_aload_n hx hb dX_walk_135 rfl (lv_at hl 6 rfl) ?_
                  refine lv_iload hx hb dX_walk_136 (lv_at hl 0 rfl) ?_
                  refine lv_iload hx hb dX_walk_138 (lv_at hl 1 rfl) ?_
                  have hFc := va_free (wc := xw q cI cZ cG (a) (f) (w)) hD hS hA (List.range 27) rfl
                  refine va_callv (va_runV (As := [.int (nI (nx)), .int (nI (st + 1))]) (rest := []) ⟨hx, hb, hml, hown, hbw⟩ (tX_addFound l dC dI q cI cZ cG (a) (f) w H.size (L) (nx) (st + 1) (by omega) (hf5)) (cwV 2 hbw (bw_V km_X_152 ki_yX_addFound ksel_yX_addFound ki_EventPatterns kcX_addFound) rfl rfl rfl (by decide +kernel) ⟨Nat.le_of_ble_eq_true rfl, Nat.le_of_ble_eq_true rfl⟩) ⟨fun a U g mk q => by obtain ⟨q0, q1, qP, qK, qD⟩ := q; exact ⟨q0, q1, qP, va_K.moved (u := U) (U := U.calling g mk a) (Vm.Alike.refl U.vm) qK, qD⟩, va_recv hK hP (ci := 0) (q0 := 0) rfl rfl, fun U hU hW => ⟨rfl, by rw [hU], by rw [hU]; exact hP, va_K.moved hW.alike hK, hD.weaken (fun _ _ _ _ => trivial)⟩⟩ rfl rfl hl.1 rfl (lv_room (Nat.le_of_ble_eq_true rfl)) dX_walk_140 ⟨hcs.1, hcs.2⟩) hS (fun q _ h => hFc q h) hFc (fun u t H1 locs ht hvm hq hB hz1 hk1 hS => ?_)
                  rw [if_pos (by omega)] at hq
                  obtain rfl := hq
                  obtain ⟨hP1, hK1, hD1⟩ := hB
                  rw [ht] at hP1
                  have hP : va_P (dC, dI) cls2 (xw q cI cZ cG (xAddA (a) (L) (nx) (st + 1)) (va_up (f) 5 (nI (L + 1))) (w)) H1 := hP1
                  have hD : va_D A (xw q cI cZ cG (xAddA (a) (L) (nx) (st + 1)) (va_up (f) 5 (nI (L + 1))) (w)) := hD1.weaken (fun _ _ _ h => hFc _ h)
                  generalize H1 = H at hP hS ⊢
                  refine lv_iinc (v := nI (nx + 1)) (lv' := [(6, .int (nI (nx + 1))), (4, .int (nI (nx))), (5, .int (nI (st + 1))), (3, .int (((left) + Int32.ofInt (-1)) - (xSame (a) w (fi) (pl) (st) (nx)))), (8, .int ((xSame (a) w (fi) (pl) (st) (nx)) + (xNext (a) w ms (fi) (pl) (st) (nx)))), (7, .int (xSame (a) w (fi) (pl) (st) (nx))), (0, .ref (q 0)), (1, .int (nI (fi)))]) hx hb dX_walk_143 hl (k := 5) rfl (nI_1 _) (by decide) rfl (fun ls hl => ?_)
                  refine lv_goto (tgt := 26) hx hb dX_walk_146 (by decide) ?_
                  refine ih (k - 1) (by omega) (nx + 1) _ (nx) (st + 1) (L + 1) (xAddA (a) (L) (nx) (st + 1)) (va_up (f) 5 (nI (L + 1))) _ _ ls hf1 hf4 rfl (by omega) (by omega) (by omega) (by omega) (by omega) (lv_sub hl [0, 2, 1, 3, 6, 7] rfl) hP hD hS (fun H locs ls pc hd hP hD hS => kk H locs ls pc hd ?_ ?_ hS)
                  · rw [eg, xWalkG_next c_70 c_106 c_120]
                    rw [show k - 1 + 1 = k from by omega] at hP
                    exact hP
                  · rw [eg, xWalkG_next c_70 c_106 c_120]
                    rw [show k - 1 + 1 = k from by omega] at hD
                    exact hD
              · refine lv_iload_n hx hb dX_walk_109 rfl (lv_at hl 2 rfl) ?_
                refine lv_iload hx hb dX_walk_110 (lv_at hl 0 rfl) ?_
                refine lv_isub hx hb dX_walk_112 ?_
                refine lv_istore_n (lv' := [(3, .int (((left) + Int32.ofInt (-1)) - ((xSame (a) w (fi) (pl) (st) (nx)) + (xNext (a) w ms (fi) (pl) (st) (nx))))), (8, .int ((xSame (a) w (fi) (pl) (st) (nx)) + (xNext (a) w ms (fi) (pl) (st) (nx)))), (7, .int (xSame (a) w (fi) (pl) (st) (nx))), (6, .int (nI (nx))), (5, .int (nI (st))), (4, .int (nI (pl))), (0, .ref (q 0)), (1, .int (nI (fi)))]) hx hb dX_walk_113 rfl hl (by decide) rfl (fun ls hl => ?_)
                refine lv_goto (tgt := 143) hx hb dX_walk_114 (by decide) ?_
                refine lv_iinc (v := nI (nx + 1)) (lv' := [(6, .int (nI (nx + 1))), (3, .int (((left) + Int32.ofInt (-1)) - ((xSame (a) w (fi) (pl) (st) (nx)) + (xNext (a) w ms (fi) (pl) (st) (nx))))), (8, .int ((xSame (a) w (fi) (pl) (st) (nx)) + (xNext (a) w ms (fi) (pl) (st) (nx)))), (7, .int (xSame (a) w (fi) (pl) (st) (nx))), (5, .int (nI (st))), (4, .int (nI (pl))), (0, .ref (q 0)), (1, .int (nI (fi)))]) hx hb dX_walk_143 hl (k := 3) rfl (nI_1 _) (by decide) rfl (fun ls hl => ?_)
                refine lv_goto (tgt := 26) hx hb dX_walk_146 (by decide) ?_
                refine ih (k - 1) (by omega) (nx + 1) _ (pl) (st) L (a) (f) _ _ ls hf1 hf4 hf5 (by omega) (by omega) (by omega) (by omega) (by omega) (lv_sub hl [0, 4, 5, 1, 6, 7] rfl) hP hD hS (fun H locs ls pc hd hP hD hS => kk H locs ls pc hd ?_ ?_ hS)
                · rw [eg, xWalkG_skip c_70 c_106]
                  rw [show k - 1 + 1 = k from by omega] at hP
                  exact hP
                · rw [eg, xWalkG_skip c_70 c_106]
                  rw [show k - 1 + 1 = k from by omega] at hD
                  exact hD
            · refine kk H locs ls 73 dX_walk_73 ?_ ?_ hS
              · rw [eg, xWalkG_no c_70]; exact hP
              · rw [eg, xWalkG_no c_70]; exact hD
          · refine kk H locs ls 57 dX_walk_57 ?_ ?_ hS
            · rw [xWalkL_end c_32 c_41 (of_decide_eq_true c_50) c_54]; exact hP
            · rw [xWalkL_end c_32 c_41 (of_decide_eq_true c_50) c_54]; exact hD
set_option maxHeartbeats 4000000 in
set_option maxRecDepth 100000 in
/-- walk(first, number) -/
theorem tX_walk (l : Launch) (dC : Nat → ClassId) (dI : Nat → Nat → Nat) (q : Nat → Nat) (cI cZ cG : ClassId) (a : Nat → Nat → Int32) (f : Nat → Int32) (w : Nat → Nat → Int32) (sz : Nat) (n ms fi : Nat) (left : Int32) (hn : n ≤ 16) (hf1 : f 1 = nI n) (h0 : 1 ≤ ms) (hm : ms ≤ 5) (hf4 : f 4 = nI ms) (h1 : fi < n) : Met l yX_walk wX_walk ({ frames := 2, cells := 0, slots := 0, locals := 49 }) (va_Pc [.ref (q 0), .int (nI (fi)), .int (left)] (fun U => U.heap.size = sz ∧ va_P (dC, dI) cls2 (xw q cI cZ cG a f w) U.heap ∧ va_K (dC, dI) cls2 (xt cI cZ cG) U ∧ va_D (fun _ => True) (xw q cI cZ cG a f w))) (va_Qv (fun (u : XS) => u = xWalk a f w n ms fi left) (atX dC dI q cI cZ cG (va_A (xw q cI cZ cG a f w) sz)) (va_A (xw q cI cZ cG a f w) sz)) 0 0 (va_A (xw q cI cZ cG a f w) sz) := by
  refine Met.ofW (cc := cX_walk) (maxL := 9) (ret := none) (by decide) rfl ?_
  intro p e s m args below meth c s₁ B hml hv
  obtain ⟨rfl, hsz, hP, hK, hD0⟩ := hv
  have hx := B.exec
  have hb := B.bytes
  have hr := B.returns
  have hbw : ∀ w ∈ bw, w.before _ s = true := fun w h => atoms_spec (ws := wX_walk) B.pre w (List.mem_cons_of_mem _ h)
  have hown : s.vm.findClass "EventPatterns" = some m.cls := findClass_of_methodNamed B.named
  have hlocks := B.notSynchronized
  subst hsz
  have hD := hD0.self (sz := s.heap.size)
  generalize hAe : va_A (xw q cI cZ cG a f w) s.heap.size = A at hD ⊢
  have hA : ∀ q : Nat, s.heap.size ≤ q → A q := fun q h => by rw [← hAe]; exact Or.inr h
  have hS : va_S A s.heap s.heap [] := va_S.rf
  have hl := lv_entry ([.ref (q 0), .int (nI (fi)), .int (left)]) (n := 9) (Nat.le_of_ble_eq_true rfl)
  rw [lg_entry_eq]
  generalize (lg_sl ([.ref (q 0), .int (nI (fi)), .int (left)]) ++ List.replicate (9 - (lg_sl ([.ref (q 0), .int (nI (fi)), .int (left)])).length) Slot.unset).toArray = ls at hl ⊢
  have hl : lv_has ls 9 [(0, .ref (q 0)), (1, .int (nI (fi))), (2, .int (left))] := hl
  refine lv_iload_n hx hb dX_walk_0 rfl (lv_at hl 2 rfl) ?_
  refine lv_istore_n (lv' := [(3, .int (left)), (0, .ref (q 0)), (1, .int (nI (fi))), (2, .int (left))]) hx hb dX_walk_1 rfl hl (by decide) rfl (fun ls hl => ?_)
  refine lv_iload_n hx hb dX_walk_2 rfl (lv_at hl 2 rfl) ?_
  refine lv_istore (lv' := [(4, .int (nI (fi))), (3, .int (left)), (0, .ref (q 0)), (1, .int (nI (fi))), (2, .int (left))]) hx hb dX_walk_3 hl (by decide) rfl (fun ls hl => ?_)
  refine lv_iconst (v := 0) hx hb dX_walk_5 (by decide) ?_
  refine lv_istore (lv' := [(5, .int (0)), (4, .int (nI (fi))), (3, .int (left)), (0, .ref (q 0)), (1, .int (nI (fi))), (2, .int (left))]) hx hb dX_walk_6 hl (by decide) rfl (fun ls hl => ?_)
  refine lv_aload_n hx hb dX_walk_8 rfl (lv_at hl 3 rfl) ?_
  refine lv_iconst (v := 0) hx hb dX_walk_9 (by decide) ?_
  refine va_put (D := (dC, dI)) (ci := 0) (v := .int (0)) (ty := .int) (C := "EventPatterns") (T := TX) (N := 16) hx hb hbw inX tyX okX nmX hown hK hP hD hS 0 rfl rfl 15 (by decide) (hbw _ kf_X_59) (fun _ h9 => h9) rfl (by decide +kernel) rfl rfl (Nat.le_of_ble_eq_true rfl) dX_walk_10 (fun H locs hP hD hS => ?_)
  have hP : va_P (dC, dI) cls2 (xw q cI cZ cG (a) (va_up (f) 5 (0)) (w)) H := hP
  have hD : va_D A (xw q cI cZ cG (a) (va_up (f) 5 (0)) (w)) := hD
  refine lv_aload_n hx hb dX_walk_13 rfl (lv_at hl 3 rfl) ?_
  refine lv_iload hx hb dX_walk_14 (lv_at hl 1 rfl) ?_
  refine lv_iload hx hb dX_walk_16 (lv_at hl 0 rfl) ?_
  have hFc := va_free (wc := xw q cI cZ cG (a) (va_up (f) 5 (0)) (w)) hD hS hA (List.range 27) rfl
  refine va_callv (va_runV (As := [.int (nI (fi)), .int (0)]) (rest := []) ⟨hx, hb, hml, hown, hbw⟩ (tX_addFound l dC dI q cI cZ cG (a) (va_up (f) 5 (0)) w H.size (0) (fi) (0) (by omega) (rfl)) (cwV 2 hbw (bw_V km_X_152 ki_yX_addFound ksel_yX_addFound ki_EventPatterns kcX_addFound) rfl rfl rfl (by decide +kernel) ⟨Nat.le_of_ble_eq_true rfl, Nat.le_of_ble_eq_true rfl⟩) ⟨fun a U g mk q => by obtain ⟨q0, q1, qP, qK, qD⟩ := q; exact ⟨q0, q1, qP, va_K.moved (u := U) (U := U.calling g mk a) (Vm.Alike.refl U.vm) qK, qD⟩, va_recv hK hP (ci := 0) (q0 := 0) rfl rfl, fun U hU hW => ⟨rfl, by rw [hU], by rw [hU]; exact hP, va_K.moved hW.alike hK, hD.weaken (fun _ _ _ _ => trivial)⟩⟩ rfl rfl hl.1 rfl (lv_room (Nat.le_of_ble_eq_true rfl)) dX_walk_18 ⟨Nat.le_of_ble_eq_true rfl, Nat.le_of_ble_eq_true rfl⟩) hS (fun q _ h => hFc q h) hFc (fun u t H1 locs ht hvm hq hB hz1 hk1 hS => ?_)
  rw [if_pos (by omega)] at hq
  obtain rfl := hq
  obtain ⟨hP1, hK1, hD1⟩ := hB
  rw [ht] at hP1
  have hP : va_P (dC, dI) cls2 (xw q cI cZ cG (xAddA (a) (0) (fi) (0)) (va_up (va_up (f) 5 (0)) 5 (nI (0 + 1))) (w)) H1 := hP1
  have hD : va_D A (xw q cI cZ cG (xAddA (a) (0) (fi) (0)) (va_up (va_up (f) 5 (0)) 5 (nI (0 + 1))) (w)) := hD1.weaken (fun _ _ _ h => hFc _ h)
  generalize H1 = H at hP hS ⊢
  refine lv_iload_n hx hb dX_walk_21 rfl (lv_at hl 4 rfl) ?_
  refine lv_iconst (v := 1) hx hb dX_walk_22 (by decide) ?_
  refine nr_iadd hx hb (a1 := fi) (b1 := 1) dX_walk_23 ?_
  refine lv_istore (lv' := [(6, .int (nI (fi + 1))), (5, .int (0)), (4, .int (nI (fi))), (3, .int (left)), (0, .ref (q 0)), (1, .int (nI (fi))), (2, .int (left))]) hx hb dX_walk_24 hl (by decide) rfl (fun ls hl => ?_)
  refine lX_walk l dC dI q cI cZ cG w n ms fi hn h0 hm ⟨Nat.le_refl _, Nat.le_refl _⟩ hx hb hml hown hbw hK hA n (fi + 1) left fi 0 1 (xAddA (a) (0) (fi) (0)) (va_up (va_up (f) 5 (0)) 5 (nI (0 + 1))) _ _ ls hf1 hf4 rfl (by omega) (by omega) (by omega) (by omega) (by omega) (lv_sub hl [0, 1, 2, 3, 4, 5] rfl) hP hD hS (fun H locs ls pc hd hP hD hS => ?_)
  exact W.vret hx hb hr (fun t ht hW => ⟨⟨_, rfl, rfl, by rw [ht]; exact hP, va_K.moved hW.alike hK, hD⟩, hS.F ht⟩) hS.2.2 hd
def xFindL (a : Nat → Nat → Int32) (f : Nat → Int32) (n ms : Nat) : Nat → Nat → Int32 → (Nat → Nat → Int32) → Bool × XS
  | 0, _, _, w => (false, (a, f, w))
  | k + 1, fi, left, w =>
    if fi < n then (if left < xFromR a f n ms fi 0 w then (true, xWalk a f (xFromW a f n ms fi 0 w) n ms fi left) else xFindL a f n ms k (fi + 1) (left - xFromR a f n ms fi 0 w) (xFromW a f n ms fi 0 w))
    else (false, (a, f, w))
theorem xFindL_out {a : Nat → Nat → Int32} {f : Nat → Int32} {n ms k fi : Nat} {left : Int32} {w : Nat → Nat → Int32} (h : n ≤ fi) : xFindL a f n ms (k + 1) fi left w = (false, (a, f, w)) := by rw [xFindL, if_neg (by omega)]
theorem xFindL_hit {a : Nat → Nat → Int32} {f : Nat → Int32} {n ms k fi : Nat} {left : Int32} {w : Nat → Nat → Int32} (h : fi < n) (h1 : left < xFromR a f n ms fi 0 w) : xFindL a f n ms (k + 1) fi left w = (true, xWalk a f (xFromW a f n ms fi 0 w) n ms fi left) := by rw [xFindL, if_pos h, if_pos h1]
theorem xFindL_on {a : Nat → Nat → Int32} {f : Nat → Int32} {n ms k fi : Nat} {left : Int32} {w : Nat → Nat → Int32} (hk : 1 ≤ k) (h : fi < n) (h1 : ¬ left < xFromR a f n ms fi 0 w) : xFindL a f n ms (k + 1) fi left w = xFindL a f n ms (k - 1 + 1) (fi + 1) (left - xFromR a f n ms fi 0 w) (xFromW a f n ms fi 0 w) := by rw [xFindL, if_pos h, if_neg h1, show k - 1 + 1 = k by omega]
def xFind (a : Nat → Nat → Int32) (f : Nat → Int32) (w : Nat → Nat → Int32) (n ms : Nat) (kk : Int32) : Bool × XS := if kk < 0 then (false, (a, f, w)) else xFindL a f n ms (n + 1) 0 kk w
set_option maxHeartbeats 4000000 in
set_option maxRecDepth 100000 in
theorem lX_find (l : Launch) (dC : Nat → ClassId) (dI : Nat → Nat → Nat) (q : Nat → Nat) (cI cZ cG : ClassId) (a : Nat → Nat → Int32) (f : Nat → Int32) {p : Program} {e : Env} {s : State} {m : MethodId} {args : Array Value} {below : List Frame} {meth : Method} {c : Code} {Q : State → Prop} {A : Nat → Prop} (n ms : Nat) (hn : n ≤ 16) (hf1 : f 1 = nI n) (h0 : 1 ≤ ms) (hm : ms ≤ 5) (hf4 : f 4 = nI ms) {cells slots : Nat} (hcs : cells ≤ 0 ∧ slots ≤ 0) (hx : p.tables.exec = Jvm.exec) (hb : c.code = cX_find) (hml : c.maxLocals = 5) (hown : s.vm.findClass "EventPatterns" = some m.cls) (hbw : ∀ w ∈ bw, w.before args s = true) (hK : va_K (dC, dI) cls2 (xt cI cZ cG) s) (hA : ∀ q : Nat, s.heap.size ≤ q → A q) :
    ∀ (k fi : Nat) (left : Int32) (w : Nat → Nat → Int32) (H : Heap) (locs : List Loc) (ls : Array Slot), n ≤ fi + k → fi ≤ 16 → lv_has ls 5 [(3, .int (nI fi)), (2, .int left), (0, .ref (q 0))] → va_P (dC, dI) cls2 (xw q cI cZ cG a f w) H → va_D A (xw q cI cZ cG a f w) → va_S A s.heap H locs →
      (∀ (H : Heap) (locs : List Loc) (ls : Array Slot) (pc : Nat), decode cX_find pc = .ok (.ireturn, 1) → va_P (dC, dI) cls2 (xw q cI cZ cG (xFindL a f n ms (k + 1) fi left w).2.1 (xFindL a f n ms (k + 1) fi left w).2.2.1 (xFindL a f n ms (k + 1) fi left w).2.2.2) H → va_D A (xw q cI cZ cG (xFindL a f n ms (k + 1) fi left w).2.1 (xFindL a f n ms (k + 1) fi left w).2.2.1 (xFindL a f n ms (k + 1) fi left w).2.2.2) → va_S A s.heap H locs → W p l e ({ frames := 4, cells := 0, slots := 0, locals := 99 }) s m args below meth c H locs cells slots Q (F0 m pc ls [.int (bI (xFindL a f n ms (k + 1) fi left w).1)])) → W p l e ({ frames := 4, cells := 0, slots := 0, locals := 99 }) s m args below meth c H locs cells slots Q (F0 m 10 ls []) := by
  intro k
  induction k using Nat.strongRecOn with
  | ind k ih =>
    intro fi left w H locs ls hk hfi hl hP hD hS kk
    refine lv_iload_n hx hb dX_find_10 rfl (lv_at hl 0 rfl) ?_
    refine lv_aload_n hx hb dX_find_11 rfl (lv_at hl 2 rfl) ?_
    refine va_get (D := (dC, dI)) (ci := 0) (v := .int (nI (n))) (C := "EventPatterns") (T := TX) (N := 16) hx hb hbw inX hown hK hP 0 rfl rfl 4 (by decide) (hbw _ kf_X_47) (fun _ h9 => h9) (congrArg (fun z => some (Value.int z)) (hf1)) dX_find_12 ?_
    refine nr_icmp_ge (tgt := 51) hx hb (a1 := fi) (b1 := n) (by omega) (by omega) dX_find_15 (by decide) (fun c_15 => ?_) (fun c_15 => ?_)
    · refine lv_iconst (v := 0) hx hb dX_find_51 (by decide) ?_
      rw [xFindL_out c_15] at kk
      exact kk H locs ls 52 dX_find_52 hP hD hS
    · refine lv_aload_n hx hb dX_find_18 rfl (lv_at hl 2 rfl) ?_
      refine lv_iload_n hx hb dX_find_19 rfl (lv_at hl 0 rfl) ?_
      refine lv_iconst (v := 0) hx hb dX_find_20 (by decide) ?_
      have hFc := va_free (wc := xw q cI cZ cG (a) (f) (w)) hD hS hA (List.range 27) rfl
      refine va_calli (va_runV (As := [.int (nI (fi)), .int (0)]) (rest := []) ⟨hx, hb, hml, hown, hbw⟩ (tX_waysFrom l dC dI q cI cZ cG a f (w) H.size n ms (fi) (0) hn hf1 h0 hm hf4 (by omega)) (cwV 2 hbw (bw_V km_X_123 ki_yX_waysFrom ksel_yX_waysFrom ki_EventPatterns kcX_waysFrom) rfl rfl rfl (by decide +kernel) ⟨Nat.le_of_ble_eq_true rfl, Nat.le_of_ble_eq_true rfl⟩) ⟨fun a U g mk q => by obtain ⟨q0, q1, qP, qK, qD⟩ := q; exact ⟨q0, q1, qP, va_K.moved (u := U) (U := U.calling g mk a) (Vm.Alike.refl U.vm) qK, qD⟩, va_recv hK hP (ci := 0) (q0 := 0) rfl rfl, fun U hU hW => ⟨rfl, by rw [hU], by rw [hU]; exact hP, va_K.moved hW.alike hK, hD.weaken (fun _ _ _ _ => trivial)⟩⟩ rfl rfl hl.1 rfl (lv_room (Nat.le_of_ble_eq_true rfl)) dX_find_21 ⟨hcs.1, hcs.2⟩) hS (fun q _ h => hFc q h) hFc (fun r_21 u t H1 locs ht hvm hq hB hz1 hk1 hS => ?_)
      obtain ⟨rfl, rfl⟩ := hq
      obtain ⟨hP1, hK1, hD1⟩ := hB
      rw [ht] at hP1
      have hP : va_P (dC, dI) cls2 (xw q cI cZ cG (a) (f) (xFromW a f n ms (fi) (0) (w))) H1 := hP1
      have hD : va_D A (xw q cI cZ cG (a) (f) (xFromW a f n ms (fi) (0) (w))) := hD1.weaken (fun _ _ _ h => hFc _ h)
      generalize H1 = H at hP hS ⊢
      refine lv_istore (lv' := [(4, .int (xFromR a f n ms (fi) (0) (w))), (3, .int (nI (fi))), (2, .int (left)), (0, .ref (q 0))]) hx hb dX_find_24 hl (by decide) rfl (fun ls hl => ?_)
      refine lv_iload_n hx hb dX_find_26 rfl (lv_at hl 2 rfl) ?_
      refine lv_iload hx hb dX_find_27 (lv_at hl 0 rfl) ?_
      refine lv_icmp_ge (tgt := 40) hx hb dX_find_29 (by decide) (fun c_29 => ?_) (fun c_29 => ?_) <;> rw [← Int32.not_lt] at c_29
      · refine lv_iload_n hx hb dX_find_40 rfl (lv_at hl 2 rfl) ?_
        refine lv_iload hx hb dX_find_41 (lv_at hl 0 rfl) ?_
        refine lv_isub hx hb dX_find_43 ?_
        refine lv_istore_n (lv' := [(2, .int ((left) - (xFromR a f n ms (fi) (0) (w)))), (4, .int (xFromR a f n ms (fi) (0) (w))), (3, .int (nI (fi))), (0, .ref (q 0))]) hx hb dX_find_44 rfl hl (by decide) rfl (fun ls hl => ?_)
        refine lv_iinc (v := nI (fi + 1)) (lv' := [(3, .int (nI (fi + 1))), (2, .int ((left) - (xFromR a f n ms (fi) (0) (w)))), (4, .int (xFromR a f n ms (fi) (0) (w))), (0, .ref (q 0))]) hx hb dX_find_45 hl (k := 2) rfl (nI_1 _) (by decide) rfl (fun ls hl => ?_)
        refine lv_goto (tgt := 10) hx hb dX_find_48 (by decide) ?_
        exact ih (k - 1) (by omega) (fi + 1) _ _ _ _ ls (by omega) (by omega) (lv_sub hl [0, 1, 3] rfl) hP hD hS (fun H locs ls pc hd hP hD hS => by rw [xFindL_on (by omega) c_15 c_29] at kk; exact kk H locs ls pc hd hP hD hS)
      have c_29 := Decidable.not_not.mp c_29
      refine lv_aload_n hx hb dX_find_32 rfl (lv_at hl 3 rfl) ?_
      refine lv_iload_n hx hb dX_find_33 rfl (lv_at hl 1 rfl) ?_
      refine lv_iload_n hx hb dX_find_34 rfl (lv_at hl 2 rfl) ?_
      have hFc := va_free (wc := xw q cI cZ cG (a) (f) (xFromW a f n ms (fi) (0) (w))) hD hS hA (List.range 27) rfl
      refine va_callv (va_runV (As := [.int (nI (fi)), .int (left)]) (rest := []) ⟨hx, hb, hml, hown, hbw⟩ (tX_walk l dC dI q cI cZ cG a f (xFromW a f n ms (fi) (0) (w)) H.size n ms (fi) (left) hn hf1 h0 hm hf4 (by omega)) (cwV 2 hbw (bw_V km_X_148 ki_yX_walk ksel_yX_walk ki_EventPatterns kcX_walk) rfl rfl rfl (by decide +kernel) ⟨Nat.le_of_ble_eq_true rfl, Nat.le_of_ble_eq_true rfl⟩) ⟨fun a U g mk q => by obtain ⟨q0, q1, qP, qK, qD⟩ := q; exact ⟨q0, q1, qP, va_K.moved (u := U) (U := U.calling g mk a) (Vm.Alike.refl U.vm) qK, qD⟩, va_recv hK hP (ci := 0) (q0 := 0) rfl rfl, fun U hU hW => ⟨rfl, by rw [hU], by rw [hU]; exact hP, va_K.moved hW.alike hK, hD.weaken (fun _ _ _ _ => trivial)⟩⟩ rfl rfl hl.1 rfl (lv_room (Nat.le_of_ble_eq_true rfl)) dX_find_35 ⟨hcs.1, hcs.2⟩) hS (fun q _ h => hFc q h) hFc (fun u t H1 locs ht hvm hq hB hz1 hk1 hS => ?_)
      obtain rfl := hq
      obtain ⟨hP1, hK1, hD1⟩ := hB
      rw [ht] at hP1
      have hP : va_P (dC, dI) cls2 (xw q cI cZ cG ((xWalk a f (xFromW a f n ms (fi) (0) (w)) n ms (fi) (left)).1) ((xWalk a f (xFromW a f n ms (fi) (0) (w)) n ms (fi) (left)).2.1) ((xWalk a f (xFromW a f n ms (fi) (0) (w)) n ms (fi) (left)).2.2)) H1 := hP1
      have hD : va_D A (xw q cI cZ cG ((xWalk a f (xFromW a f n ms (fi) (0) (w)) n ms (fi) (left)).1) ((xWalk a f (xFromW a f n ms (fi) (0) (w)) n ms (fi) (left)).2.1) ((xWalk a f (xFromW a f n ms (fi) (0) (w)) n ms (fi) (left)).2.2)) := hD1.weaken (fun _ _ _ h => hFc _ h)
      generalize H1 = H at hP hS ⊢
      refine lv_iconst (v := 1) hx hb dX_find_38 (by decide) ?_
      rw [xFindL_hit c_15 c_29] at kk
      exact kk H locs ls 39 dX_find_39 hP hD hS
set_option maxHeartbeats 4000000 in
set_option maxRecDepth 100000 in
/-- find(k) -/
theorem tX_find (l : Launch) (dC : Nat → ClassId) (dI : Nat → Nat → Nat) (q : Nat → Nat) (cI cZ cG : ClassId) (a : Nat → Nat → Int32) (f : Nat → Int32) (w : Nat → Nat → Int32) (sz : Nat) (n ms : Nat) (kk : Int32) (hn : n ≤ 16) (hf1 : f 1 = nI n) (h0 : 1 ≤ ms) (hm : ms ≤ 5) (hf4 : f 4 = nI ms)  : Met l yX_find wX_find ({ frames := 4, cells := 0, slots := 0, locals := 99 }) (va_Pc [.ref (q 0), .int (kk)] (fun U => U.heap.size = sz ∧ va_P (dC, dI) cls2 (xw q cI cZ cG a f w) U.heap ∧ va_K (dC, dI) cls2 (xt cI cZ cG) U ∧ va_D (fun _ => True) (xw q cI cZ cG a f w))) (va_Qi (fun (r0 : Int32) (u : XS) => r0 = bI (xFind a f w n ms kk).1 ∧ u = (xFind a f w n ms kk).2) (atX dC dI q cI cZ cG (va_A (xw q cI cZ cG a f w) sz)) (va_A (xw q cI cZ cG a f w) sz)) 0 0 (va_A (xw q cI cZ cG a f w) sz) := by
  refine Met.ofW (cc := cX_find) (maxL := 5) (ret := (some .boolean)) (by decide) rfl ?_
  intro p e s m args below meth c s₁ B hml hv
  obtain ⟨rfl, hsz, hP, hK, hD0⟩ := hv
  have hx := B.exec
  have hb := B.bytes
  have hr := B.returns
  have hbw : ∀ w ∈ bw, w.before _ s = true := fun w h => atoms_spec (ws := wX_find) B.pre w (List.mem_cons_of_mem _ h)
  have hown : s.vm.findClass "EventPatterns" = some m.cls := findClass_of_methodNamed B.named
  have hlocks := B.notSynchronized
  subst hsz
  have hD := hD0.self (sz := s.heap.size)
  generalize hAe : va_A (xw q cI cZ cG a f w) s.heap.size = A at hD ⊢
  have hA : ∀ q : Nat, s.heap.size ≤ q → A q := fun q h => by rw [← hAe]; exact Or.inr h
  have hS : va_S A s.heap s.heap [] := va_S.rf
  have hl := lv_entry ([.ref (q 0), .int (kk)]) (n := 5) (Nat.le_of_ble_eq_true rfl)
  rw [lg_entry_eq]
  generalize (lg_sl ([.ref (q 0), .int (kk)]) ++ List.replicate (5 - (lg_sl ([.ref (q 0), .int (kk)])).length) Slot.unset).toArray = ls at hl ⊢
  have hl : lv_has ls 5 [(0, .ref (q 0)), (1, .int (kk))] := hl
  refine lv_iload_n hx hb dX_find_0 rfl (lv_at hl 1 rfl) ?_
  refine lv_if_ge (tgt := 6) hx hb dX_find_1 (by decide) (fun c_1 => ?_) (fun c_1 => ?_)
  · refine lv_iload_n hx hb dX_find_6 rfl (lv_at hl 1 rfl) ?_
    refine lv_istore_n (lv' := [(2, .int (kk)), (0, .ref (q 0)), (1, .int (kk))]) hx hb dX_find_7 rfl hl (by decide) rfl (fun ls hl => ?_)
    refine lv_iconst (v := 0) hx hb dX_find_8 (by decide) ?_
    refine lv_istore_n (lv' := [(3, .int (0)), (2, .int (kk)), (0, .ref (q 0)), (1, .int (kk))]) hx hb dX_find_9 rfl hl (by decide) rfl (fun ls hl => ?_)
    refine lX_find l dC dI q cI cZ cG a f n ms hn hf1 h0 hm hf4 ⟨Nat.le_refl _, Nat.le_refl _⟩ hx hb hml hown hbw hK hA n 0 kk w s.heap [] ls (by omega) (by omega) (lv_sub hl [0, 1, 2] rfl) hP hD hS (fun H locs ls pc hd hP hD hS => ?_)
    have eF : xFind a f w n ms kk = xFindL a f n ms (n + 1) 0 kk w := by rw [xFind, if_neg (by rw [Int32.not_lt]; exact c_1)]
    rw [← eF] at hP hD ⊢
    exact W.zret hx hb hr (by cases (xFind a f w n ms kk).1 <;> rfl) (fun t ht hW => ⟨⟨_, _, rfl, ⟨rfl, rfl⟩, by rw [ht]; exact hP, va_K.moved hW.alike hK, hD⟩, hS.F ht⟩) hS.2.2 hd
  · refine lv_iconst (v := 0) hx hb dX_find_4 (by decide) ?_
    have eF : xFind a f w n ms kk = (false, (a, f, w)) := by rw [xFind, if_pos (by rw [← Int32.not_le]; exact c_1)]
    exact W.zret (v := 0) hx hb hr rfl (fun t ht hW => ⟨⟨0, (a, f, w), rfl, ⟨by rw [eF]; rfl, by rw [eF]⟩, by rw [ht]; exact hP, va_K.moved hW.alike hK, hD⟩, hS.F ht⟩) hS.2.2 dX_find_5
