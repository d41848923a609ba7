-- ===== end of PART A; then your names; then what follows =====
/-! THE CLAIM OUT OF ONE WALK OF THE LAW'S BODY. Your part is whole_start (and what it stands on); all else here is the same for every law, but numbers. -/
def R_law : String := "EventPatternsLaw"
def lw_P (b : Addr) (xs : List Int32) (args : Array Value) (s : State) : Prop := args = #[.ref b] ∧ s.IntsAt b xs ∧ xs.length ≤ 2560 ∧ (Jvm.Cond.and given_1 narrow_1).before args s = true
def lw_Q (_ : Array Value) (s : State) (o : Outcome) (t : State) : Prop := o = .returned (some (.int 1)) ∧ Framed s o t [] 601024 7293034
def lw_Z (below : List Frame) (a : Array Value) (s : State) : State → Prop := fun t => ∃ o, t.status = .running ∧ Ended t below o ∧ lw_Q a s o t
/-- the law's own end, with 1 on the stack, nothing written that was there before, its room as the claim has it -/
theorem lw_ret {p : Program} {l : Launch} {e : Env} {s : State} {m : MethodId} {below : List Frame} {meth : Method} {c : Code} {b : Nat} (hx : p.tables.exec = Jvm.exec) (hb : c.code = code) (hr : meth.sig.returnType = ret) (hlocks : meth.locks = false) {pc : Nat} {H : Heap} {ls : Array Slot} (hdg : decode code pc = .ok (.ireturn, 1)) : W p l e room_1 s m #[Value.ref b] below meth c H [] 601024 7293034 (lw_Z below #[Value.ref b] s) (F0 m pc ls [.int 1]) := by
  intro T hT X
  obtain ⟨fs, hret, hrun, hended, hW, hframe⟩ := X.leave (v := some (.int 1)) (hlocks := hlocks) (fun h => by rw [hr] at h; cases h)
  have hmeth' : T.vm.method? m = some meth := X.method'
  refine ⟨T.setFrames fs, ?_, .returned (some (.int 1)), hrun, hended, rfl, ⟨_, rfl⟩, hW, hframe⟩
  jvm_step X.here [X.here.top, hx, hb, hdg, hmeth', hr, ret, narrow_b1]
  (try refine ⟨rfl, ?_⟩); (try refine ⟨rfl, ?_⟩)
  first | (intro acts; rw [hret _ acts rfl rfl rfl]) | rw [hret _ _ rfl rfl rfl]
  exact Steps.refl _
/-- what holds at the law's entry: the machine, the code, the tables' words (any of lw_tbl by 'hts w (by decide +kernel)'), the script of L ints xs at the cell b, what the Statement gives of the start (any of its parts by flat_of_before) -/
def lw_At (p : Program) (s : State) (m : MethodId) (meth : Method) (c : Code) (b L : Nat) (xs : Nat → Int32) : Prop :=
  p.tables.exec = Jvm.exec ∧ c.code = code ∧ meth.sig.returnType = ret ∧ c.maxLocals = 7 ∧ s.vm.findClass R_law = some m.cls ∧ (∀ w ∈ lw_tbl, w.before #[Value.ref b] s = true) ∧ va_X b L xs s s.heap ∧ b < s.heap.size ∧ meth.locks = false ∧ (Jvm.Cond.and given_1 narrow_1).before #[Value.ref b] s = true
theorem lk_bound {L i : Nat} (hL : L < 2 ^ 30) (hi : i < 2 ^ 30) (h : ¬ Int32.ofNat L - 5 < nI i) : i + 5 ≤ L := by
  have e : (nI L - nI 5).toInt = (L : Int) - 5 := pk_sub_toInt hL (by omega)
  have h2 : ¬ (nI L - nI 5 < nI i) := h
  rw [Int32.lt_iff_toInt_lt, e, nI_toInt (by omega)] at h2
  omega
theorem lk_arr {ty : FieldType} {args : Array Value} {s : State} (h : (Cond.arrayClass ty).before args s = true) : ∃ cA : ClassId, ArrOfT s cA ty ∧ s.vm.findClass ("[" ++ ty.toString) = some cA := by
  obtain ⟨cA, kA, comp, h1, h2, h3⟩ := Cond.arrayClass_spec h
  exact ⟨cA, fun n z => ⟨fun k h => (by cases h), kA, h2, comp, h3⟩, h1⟩
theorem lk_K {args : Array Value} {s : State} (hbw : ∀ w ∈ bw, w.before args s = true) (hO : va_AOA .int s) : ∃ (dC : Nat → ClassId) (dI : Nat → Nat → Nat) (cI cZ cG cL : ClassId), va_K (dC, dI) cls2 (ot cI cZ cG cL) s := by
  obtain ⟨c0, iS0, hKn0⟩ := u_known (C := "EventPatterns") (T := TX) (N := 16) (n := 16) hbw inX (hbw _ kn_EventPatterns)
  obtain ⟨c1, iS1, hKn1⟩ := u_known (C := "EventPatternsModel") (T := TM) (N := 16) (n := 16) hbw inM (hbw _ kn_EventPatternsModel)
  obtain ⟨cI, a1, a2⟩ := lk_arr (hbw _ ka_int)
  obtain ⟨cZ, z1, z2⟩ := lk_arr (hbw _ ka_boolean)
  obtain ⟨cL, l1, l2⟩ := lk_arr (hbw _ ka_long)
  obtain ⟨comp, cG, kG, g1, g2, g3, g4, g5⟩ := va_AOA_spec (va_AOA.use (A := args) hO)
  refine ⟨fun k => if k = 0 then c0 else c1, fun k => if k = 0 then iS0 else iS1, cI, cZ, cG, cL, ?_, ?_⟩
  · intro k q hq
    match k, hq with
    | 0, hq => cases hq; exact hKn0
    | 1, hq => cases hq; exact hKn1
    | k + 2, hq => simp [cls2] at hq
  · intro k q hq
    match k, hq with
    | 0, hq => cases hq; exact ⟨a1, a2⟩
    | 1, hq => cases hq; exact ⟨z1, z2⟩
    | 2, hq => cases hq; exact ⟨fun n z => ⟨fun k h => (by cases h), kG, g3, comp, g4⟩, g5⟩
    | 3, hq => cases hq; exact ⟨l1, l2⟩
    | k + 4, hq => simp [ot] at hq
set_option maxHeartbeats 4000000 in
set_option maxRecDepth 100000 in
theorem lL_loop (l : Launch) (dC : Nat → ClassId) (dI : Nat → Nat → Nat) (q r : Nat → Nat) (cI cZ cG cL : ClassId) (o : Nat) {p : Program} {e : Env} {s : State} {m : MethodId} {below : List Frame} {meth : Method} {c : Code} {b0 L : Nat} {xs : Nat → Int32} (hLN : L ≤ 2560) (C0 : lw_At p s m meth c b0 L xs) (hK : va_K (dC, dI) cls2 (ot cI cZ cG cL) s) (hE : xE l (fun q : Nat => s.heap.size ≤ q) s s.heap) (hNc : xNc s) :
    ∀ (k t : Nat) (h : Nat → Int64) (a : Nat → Nat → Int32) (f : Nat → Int32) (w : Nat → Nat → Int32) (b : Nat → Nat → Int32) (g : Nat → Int32) (ev n ms : Nat) (H : Heap) (locs : List Loc) (ls : Array Slot), 5 * t ≤ L → L < 5 * t + 5 * k → Ln a f b g ev n ms → lv_has ls 7 [(4, .int (nI (5 * t))), (0, .ref b0), (1, .ref (q 0)), (2, .ref (r 0)), (3, .ref o)] → va_P (dC, dI) cls2 (lW q r cI cZ cG cL o h a f w b g) H → va_D (fun q : Nat => s.heap.size ≤ q) (lW q r cI cZ cG cL o h a f w b g) → va_S (fun q : Nat => s.heap.size ≤ q) s.heap H locs →
      W p l e room_1 s m #[Value.ref b0] below meth c H locs (39 + 3 * t) (1561 + 18 * t) (lw_Z below #[Value.ref b0] s) (F0 m 23 ls []) := by
  obtain ⟨hx, hb, hr, hml, hown, hts, hX, hbl, hlocks, hgv⟩ := C0
  have hA : ∀ q : Nat, s.heap.size ≤ q → (fun q : Nat => s.heap.size ≤ q) q := fun _ h => h
  have hbA : ¬ (fun q : Nat => s.heap.size ≤ q) b0 := Nat.not_le.mpr hbl
  have hbw : ∀ w ∈ bw, w.before #[Value.ref b0] s = true := fun w h => hts w (bw_l h)
  have hL : L < 2 ^ 30 := by omega
  intro k
  induction k with
  | zero => intro t h a f w b g ev n ms H locs ls h1 h2; omega
  | succ k ih =>
    intro t h a f w b g ev n ms H locs ls h1 h2 hLn hl hP hD hS
    refine lv_iload hx hb dL_law_23 (lv_at hl 0 rfl) ?_
    refine lv_aload_n hx hb dL_law_25 rfl (lv_at hl 1 rfl) ?_
    refine va_slen hx hb hX hbl hbA hS dL_law_26 ?_
    refine lv_iconst (v := 5) hx hb dL_law_27 (by decide) ?_
    refine lv_isub hx hb dL_law_28 ?_
    refine lv_icmp_gt (tgt := 578) hx hb dL_law_29 (by decide) (fun c1 => ?_) (fun c1 => ?_)
    · refine lv_iconst (v := 1) hx hb dL_law_578 (by decide) ?_
      refine va_forget (fun q hq => hS.2.2 q hq) ?_
      refine W.widen (k := 601024) (n := 7293034) (by omega) (by omega) ?_
      exact lw_ret hx hb hr hlocks dL_law_579
    · have hi : 5 * t + 5 ≤ L := lk_bound hL (by omega) c1
      refine lv_aload_n hx hb dL_law_32 rfl (lv_at hl 1 rfl) ?_
      refine lv_iload hx hb dL_law_33 (lv_at hl 0 rfl) ?_
      refine nr_sld hx hb hX hbl hbA hS (j := 5 * t) (by omega) hL dL_law_35 ?_
      refine lv_bipush (v := 15) hx hb dL_law_36 (by decide) ?_
      refine lv_iand hx hb dL_law_38 ?_
      obtain ⟨j, hj, ej⟩ := pk_andE (xs (5 * t)) (m := 15) 4 (by decide)
      refine W.eq (g2 := F0 m 39 ls [.int (nI j)]) (by rw [ej]) ?_
      have kk : ∀ (u : XS × (Nat → Int64)) (v : MS) (ev n ms : Nat) (H : Heap) (locs : List Loc) (ls : Array Slot), Ln u.1.1 u.1.2.1 v.1 v.2 ev n ms → lv_has ls 7 [(4, .int (nI (5 * t))), (0, .ref b0), (1, .ref (q 0)), (2, .ref (r 0)), (3, .ref o)] → va_P (dC, dI) cls2 (lW q r cI cZ cG cL o u.2 u.1.1 u.1.2.1 u.1.2.2 v.1 v.2) H → va_D (fun q : Nat => s.heap.size ≤ q) (lW q r cI cZ cG cL o u.2 u.1.1 u.1.2.1 u.1.2.2 v.1 v.2) → va_S (fun q : Nat => s.heap.size ≤ q) s.heap H locs → W p l e room_1 s m #[Value.ref b0] below meth c H locs (39 + 3 * t + 3) (1561 + 18 * t + 18) (lw_Z below #[Value.ref b0] s) (F0 m 572 ls []) := by
        intro u v ev n ms H locs ls hLn hl hP hD hS
        refine lv_iinc (v := nI (5 * (t + 1))) (lv' := [(4, .int (nI (5 * (t + 1)))), (0, .ref b0), (1, .ref (q 0)), (2, .ref (r 0)), (3, .ref o)]) hx hb dL_law_572 hl (k := 0) rfl (nI_add (5 * t) 5) (by decide) rfl (fun ls hl => ?_)
        refine lv_goto (tgt := 23) hx hb dL_law_575 (by decide) ?_
        refine W.widen (k := 39 + 3 * (t + 1)) (n := 1561 + 18 * (t + 1)) (by omega) (by omega) ?_
        exact ih (t + 1) u.2 u.1.1 u.1.2.1 u.1.2.2 v.1 v.2 ev n ms H locs ls (by omega) (by omega) hLn hl hP hD hS
      have hcs : 39 + 3 * t + 3 ≤ room_1.cells ∧ 1561 + 18 * t + 18 ≤ room_1.slots := ⟨by show _ ≤ 601024; omega, by show _ ≤ 7293034; omega⟩
      rcases (show j = 0 ∨ j = 1 ∨ j = 2 ∨ j = 3 ∨ j = 4 ∨ j = 5 ∨ j = 6 ∨ j = 7 ∨ j = 8 ∨ 9 ≤ j by omega) with rfl | rfl | rfl | rfl | rfl | rfl | rfl | rfl | rfl | h9
      · refine lv_tableIn (off := 49) (tgt := 88) hx hb dL_law_39 (by decide) (by decide) (by decide) (by decide) ?_
        exact lL_event l dC dI q r cI cZ cG cL o hL hcs hx hb hml hown hbw hK hA hX hbl hbA hE hNc (5 * t) hi h a f w b g ev n ms hLn H locs ls hl hP hD hS kk
      · refine lv_tableIn (off := 129) (tgt := 168) hx hb dL_law_39 (by decide) (by decide) (by decide) (by decide) ?_
        exact lL_clear l dC dI q r cI cZ cG cL o hL hcs hx hb hml hown hbw hK hA hX hbl hbA hE hNc (5 * t) hi h a f w b g ev n ms hLn H locs ls hl hP hD hS kk
      · refine lv_tableIn (off := 140) (tgt := 179) hx hb dL_law_39 (by decide) (by decide) (by decide) (by decide) ?_
        exact lL_pattern l dC dI q r cI cZ cG cL o hL hcs hx hb hml hown hbw hK hA hX hbl hbA hE hNc (5 * t) hi h a f w b g ev n ms hLn H locs ls hl hP hD hS kk
      · refine lv_tableIn (off := 188) (tgt := 227) hx hb dL_law_39 (by decide) (by decide) (by decide) (by decide) ?_
        exact lL_step l dC dI q r cI cZ cG cL o hL hcs hx hb hml hown hbw hK hA hX hbl hbA hE hNc (5 * t) hi h a f w b g ev n ms hLn H locs ls hl hP hD hS kk
      · refine lv_tableIn (off := 296) (tgt := 335) hx hb dL_law_39 (by decide) (by decide) (by decide) (by decide) ?_
        exact lL_count l dC dI q r cI cZ cG cL o hL hcs hx hb hml hown hbw hK hA hX hbl hbA hE hNc (5 * t) hi h a f w b g ev n ms hLn H locs ls hl hP hD hS kk
      · refine lv_tableIn (off := 340) (tgt := 379) hx hb dL_law_39 (by decide) (by decide) (by decide) (by decide) ?_
        exact lL_latest l dC dI q r cI cZ cG cL o hL hcs hx hb hml hown hbw hK hA hX hbl hbA hE hNc (5 * t) hi h a f w b g ev n ms hLn H locs ls hl hP hD hS kk
      · refine lv_tableIn (off := 384) (tgt := 423) hx hb dL_law_39 (by decide) (by decide) (by decide) (by decide) ?_
        exact lL_length l dC dI q r cI cZ cG cL o hL hcs hx hb hml hown hbw hK hA hX hbl hbA hE hNc (5 * t) hi h a f w b g ev n ms hLn H locs ls hl hP hD hS kk
      · refine lv_tableIn (off := 440) (tgt := 479) hx hb dL_law_39 (by decide) (by decide) (by decide) (by decide) ?_
        exact lL_match l dC dI q r cI cZ cG cL o hL hcs hx hb hml hown hbw hK hA hX hbl hbA hE hNc (5 * t) hi h a f w b g ev n ms hLn H locs ls hl hP hD hS kk
      · refine lv_tableIn (off := 520) (tgt := 559) hx hb dL_law_39 (by decide) (by decide) (by decide) (by decide) ?_
        exact lL_events l dC dI q r cI cZ cG cL o hL hcs hx hb hml hown hbw hK hA hX hbl hbA hE hNc (5 * t) hi h a f w b g ev n ms hLn H locs ls hl hP hD hS kk
      · refine lv_tableOut (tgt := 572) hx hb dL_law_39 (Or.inr (by rw [nI_toInt (by omega)]; omega)) (by decide) ?_
        refine W.widen (k := 39 + 3 * t + 3) (n := 1561 + 18 * t + 18) (by omega) (by omega) ?_
        exact kk ((a, f, w), h) (b, g) ev n ms H locs ls hLn hl hP hD hS
