/-! THE REFERENCE: its small methods -/
def iIn (v lo hi : Int32) : Bool := !decide (v < lo) && !decide (hi < v)
def mIs (b : Nat → Nat → Int32) (g : Nat → Int32) (e st fi : Nat) : Bool := decide ((b 3 st >>> (b 1 e &&& 31)) &&& 1 = 1) && !decide (g 3 < b 0 e - b 0 fi)
def mFit1 (b : Nat → Nat → Int32) (g : Nat → Int32) (e st bf fi : Nat) : Bool := mIs b g e st fi && (if b 4 st = 1 then !decide (b 2 e ≤ b 2 bf) else if b 4 st = 2 then !decide (b 2 bf ≤ b 2 e) else if b 4 st = 3 then decide (b 2 e = b 2 fi) else if b 4 st = 4 then !decide (b 2 e < b 5 st) else true)
def mFit0 (b : Nat → Nat → Int32) (g : Nat → Int32) (e st fi : Nat) : Bool := mIs b g e st fi && (if b 4 st = 1 then true else if b 4 st = 2 then true else if b 4 st = 3 then decide (b 2 e = b 2 fi) else if b 4 st = 4 then !decide (b 2 e < b 5 st) else true)
def mTh (x y z : Bool) : Nat := if x then 1 else if y then 2 else if z then 3 else 0
set_option maxHeartbeats 4000000 in
set_option maxRecDepth 100000 in
/-- in(v, low, high) -/
theorem tM_in (l : Launch) (v lo hi : Int32) : Met l yM_in wM_in ({ frames := 0, cells := 0, slots := 0, locals := 0 }) (va_Pc [.int (v), .int (lo), .int (hi)] (fun _ => True)) (vp_Si (fun r0 => r0 = bI (iIn v lo hi))) 0 0 (fun _ => False) := by
  refine Met.ofW (cc := cM_in) (maxL := 3) (ret := (some .boolean)) (by decide) rfl ?_
  intro p e s m args below meth c s₁ B hml hv
  obtain ⟨rfl, -⟩ := hv
  have hx := B.exec
  have hb := B.bytes
  have hr := B.returns
  have hbw : ∀ w ∈ bw, w.before _ s = true := fun w h => atoms_spec (ws := wM_in) B.pre w (List.mem_cons_of_mem _ h)
  have hown : s.vm.findClass "EventPatternsModel" = some m.cls := findClass_of_methodNamed B.named
  have hlocks := B.notSynchronized
  have hl := lv_entry ([.int (v), .int (lo), .int (hi)]) (n := 3) (Nat.le_of_ble_eq_true rfl)
  rw [lg_entry_eq]
  generalize (lg_sl ([.int (v), .int (lo), .int (hi)]) ++ List.replicate (3 - (lg_sl ([.int (v), .int (lo), .int (hi)])).length) Slot.unset).toArray = ls at hl ⊢
  have hl : lv_has ls 3 [(0, .int (v)), (1, .int (lo)), (2, .int (hi))] := hl
  refine lv_iload_n hx hb dM_in_0 rfl (lv_at hl 0 rfl) ?_
  refine lv_iload_n hx hb dM_in_1 rfl (lv_at hl 1 rfl) ?_
  refine lv_icmp_lt (tgt := 14) hx hb dM_in_2 (by decide) (fun c_2 => ?_) (fun c_2 => ?_)
  · refine lv_iconst (v := 0) hx hb dM_in_14 (by decide) ?_
    exact W.zret (v := 0) hx hb hr rfl (fun t ht hW => ⟨0, rfl, by first | (simp [iIn, bI, *]; done) | (subst_vars; simp [iIn, bI, *]; done) | (subst_vars; simp_all [iIn, bI]; done), ht⟩) (fun q h => by cases h) dM_in_15
  · refine lv_iload_n hx hb dM_in_5 rfl (lv_at hl 0 rfl) ?_
    refine lv_iload_n hx hb dM_in_6 rfl (lv_at hl 2 rfl) ?_
    refine lv_icmp_gt (tgt := 14) hx hb dM_in_7 (by decide) (fun c_7 => ?_) (fun c_7 => ?_)
    · refine lv_iconst (v := 0) hx hb dM_in_14 (by decide) ?_
      exact W.zret (v := 0) hx hb hr rfl (fun t ht hW => ⟨0, rfl, by first | (simp [iIn, bI, *]; done) | (subst_vars; simp [iIn, bI, *]; done) | (subst_vars; simp_all [iIn, bI]; done), ht⟩) (fun q h => by cases h) dM_in_15
    · refine lv_iconst (v := 1) hx hb dM_in_10 (by decide) ?_
      refine lv_goto (tgt := 15) hx hb dM_in_11 (by decide) ?_
      exact W.zret (v := 1) hx hb hr rfl (fun t ht hW => ⟨1, rfl, by first | (simp [iIn, bI, *]; done) | (subst_vars; simp [iIn, bI, *]; done) | (subst_vars; simp_all [iIn, bI]; done), ht⟩) (fun q h => by cases h) dM_in_15
set_option maxHeartbeats 4000000 in
set_option maxRecDepth 100000 in
/-- thrown() -/
theorem tM_thrown (l : Launch) (dC : Nat → ClassId) (dI : Nat → Nat → Nat) (r : Nat → Nat) (cI cZ cG : ClassId) (b : Nat → Nat → Int32) (g : Nat → Int32)   : Met l yM_thrown wM_thrown ({ frames := 0, cells := 0, slots := 0, locals := 0 }) (va_Pc [.ref (r 0)] (fun U => va_P (dC, dI) cls2 (mw r cI cZ b g) U.heap ∧ va_K (dC, dI) cls2 (xt cI cZ cG) U)) (vp_Si (fun r0 => r0 = g 0)) 0 0 (fun _ => False) := by
  refine Met.ofW (cc := cM_thrown) (maxL := 1) (ret := (some .int)) (by decide) rfl ?_
  intro p e s m args below meth c s₁ B hml hv
  obtain ⟨rfl, hP, hK⟩ := hv
  have hx := B.exec
  have hb := B.bytes
  have hr := B.returns
  have hbw : ∀ w ∈ bw, w.before _ s = true := fun w h => atoms_spec (ws := wM_thrown) B.pre w (List.mem_cons_of_mem _ h)
  have hown : s.vm.findClass "EventPatternsModel" = some m.cls := findClass_of_methodNamed B.named
  have hlocks := B.notSynchronized
  have hl := lv_entry ([.ref (r 0)]) (n := 1) (Nat.le_of_ble_eq_true rfl)
  rw [lg_entry_eq]
  generalize (lg_sl ([.ref (r 0)]) ++ List.replicate (1 - (lg_sl ([.ref (r 0)])).length) Slot.unset).toArray = ls at hl ⊢
  have hl : lv_has ls 1 [(0, .ref (r 0))] := hl
  refine lv_aload_n hx hb dM_thrown_0 rfl (lv_at hl 0 rfl) ?_
  refine va_get (D := (dC, dI)) (ci := 1) (v := .int (g 0)) (C := "EventPatternsModel") (T := TM) (N := 16) hx hb hbw inM hown hK hP 0 rfl rfl 0 (by decide) (hbw _ kf_M_41) (fun _ h9 => h9) rfl dM_thrown_1 ?_
  exact W.iret (v := g 0) hx hb hr (fun t ht hW => ⟨g 0, rfl, rfl, ht⟩) (fun q h => by cases h) dM_thrown_4
set_option maxHeartbeats 4000000 in
set_option maxRecDepth 100000 in
/-- from() -/
theorem tM_from (l : Launch) (dC : Nat → ClassId) (dI : Nat → Nat → Nat) (r : Nat → Nat) (cI cZ cG : ClassId) (b : Nat → Nat → Int32) (g : Nat → Int32) (ev : Nat) (hev : ev ≤ 400) (hg1 : g 1 = nI ev) : Met l yM_from wM_from ({ frames := 0, cells := 0, slots := 0, locals := 0 }) (va_Pc [.ref (r 0)] (fun U => va_P (dC, dI) cls2 (mw r cI cZ b g) U.heap ∧ va_K (dC, dI) cls2 (xt cI cZ cG) U)) (vp_Si (fun r0 => r0 = nI (ev - 16))) 0 0 (fun _ => False) := by
  refine Met.ofW (cc := cM_from) (maxL := 1) (ret := (some .int)) (by decide) rfl ?_
  intro p e s m args below meth c s₁ B hml hv
  obtain ⟨rfl, hP, hK⟩ := hv
  have hx := B.exec
  have hb := B.bytes
  have hr := B.returns
  have hbw : ∀ w ∈ bw, w.before _ s = true := fun w h => atoms_spec (ws := wM_from) B.pre w (List.mem_cons_of_mem _ h)
  have hown : s.vm.findClass "EventPatternsModel" = some m.cls := findClass_of_methodNamed B.named
  have hlocks := B.notSynchronized
  have hl := lv_entry ([.ref (r 0)]) (n := 1) (Nat.le_of_ble_eq_true rfl)
  rw [lg_entry_eq]
  generalize (lg_sl ([.ref (r 0)]) ++ List.replicate (1 - (lg_sl ([.ref (r 0)])).length) Slot.unset).toArray = ls at hl ⊢
  have hl : lv_has ls 1 [(0, .ref (r 0))] := hl
  refine lv_aload_n hx hb dM_from_0 rfl (lv_at hl 0 rfl) ?_
  refine va_get (D := (dC, dI)) (ci := 1) (v := .int (nI (ev))) (C := "EventPatternsModel") (T := TM) (N := 16) hx hb hbw inM hown hK hP 0 rfl rfl 1 (by decide) (hbw _ kf_M_45) (fun _ h9 => h9) (congrArg (fun z => some (Value.int z)) (hg1)) dM_from_1 ?_
  refine lv_bipush (v := 16) hx hb dM_from_4 (by decide) ?_
  refine nr_icmp_le (tgt := 19) hx hb (a1 := ev) (b1 := 16) (by omega) (by omega) dM_from_6 (by decide) (fun c_6 => ?_) (fun c_6 => ?_)
  · refine lv_iconst (v := 0) hx hb dM_from_19 (by decide) ?_
    exact W.iret (v := 0) hx hb hr (fun t ht hW => ⟨0, rfl, by first | rfl | (rw [show ev - 16 = 0 by omega]; rfl), ht⟩) (fun q h => by cases h) dM_from_20
  · refine lv_aload_n hx hb dM_from_9 rfl (lv_at hl 0 rfl) ?_
    refine va_get (D := (dC, dI)) (ci := 1) (v := .int (nI (ev))) (C := "EventPatternsModel") (T := TM) (N := 16) hx hb hbw inM hown hK hP 0 rfl rfl 1 (by decide) (hbw _ kf_M_45) (fun _ h9 => h9) (congrArg (fun z => some (Value.int z)) (hg1)) dM_from_10 ?_
    refine lv_bipush (v := 16) hx hb dM_from_13 (by decide) ?_
    refine nr_isub hx hb (a1 := ev) (b1 := 16) (by omega) dM_from_15 ?_
    refine lv_goto (tgt := 20) hx hb dM_from_16 (by decide) ?_
    exact W.iret (v := nI (ev - 16)) hx hb hr (fun t ht hW => ⟨nI (ev - 16), rfl, by first | rfl | (rw [show ev - 16 = 0 by omega]; rfl), ht⟩) (fun q h => by cases h) dM_from_20
set_option maxHeartbeats 4000000 in
set_option maxRecDepth 100000 in
/-- fits(e, s, NONE, first) -/
theorem tM_fits0 (l : Launch) (dC : Nat → ClassId) (dI : Nat → Nat → Nat) (r : Nat → Nat) (cI cZ cG : ClassId) (b : Nat → Nat → Int32) (g : Nat → Int32) (e1 st fi : Nat) (h1 : e1 < 400) (h2 : st < 5) (h4 : fi < 400) : Met l yM_fits wM_fits ({ frames := 0, cells := 0, slots := 0, locals := 0 }) (va_Pc [.ref (r 0), .int (nI (e1)), .int (nI (st)), .int (-1), .int (nI (fi))] (fun U => va_P (dC, dI) cls2 (mw r cI cZ b g) U.heap ∧ va_K (dC, dI) cls2 (xt cI cZ cG) U)) (vp_Si (fun r0 => r0 = bI (mFit0 b g e1 st fi))) 0 0 (fun _ => False) := by
  refine Met.ofW (cc := cM_fits) (maxL := 6) (ret := (some .boolean)) (by decide) rfl ?_
  intro p e s m args below meth c s₁ B hml hv
  obtain ⟨rfl, hP, hK⟩ := hv
  have hx := B.exec
  have hb := B.bytes
  have hr := B.returns
  have hbw : ∀ w ∈ bw, w.before _ s = true := fun w h => atoms_spec (ws := wM_fits) B.pre w (List.mem_cons_of_mem _ h)
  have hown : s.vm.findClass "EventPatternsModel" = some m.cls := findClass_of_methodNamed B.named
  have hlocks := B.notSynchronized
  have hl := lv_entry ([.ref (r 0), .int (nI (e1)), .int (nI (st)), .int (-1), .int (nI (fi))]) (n := 6) (Nat.le_of_ble_eq_true rfl)
  rw [lg_entry_eq]
  generalize (lg_sl ([.ref (r 0), .int (nI (e1)), .int (nI (st)), .int (-1), .int (nI (fi))]) ++ List.replicate (6 - (lg_sl ([.ref (r 0), .int (nI (e1)), .int (nI (st)), .int (-1), .int (nI (fi))])).length) Slot.unset).toArray = ls at hl ⊢
  have hl : lv_has ls 6 [(0, .ref (r 0)), (1, .int (nI (e1))), (2, .int (nI (st))), (3, .int (-1)), (4, .int (nI (fi)))] := hl
  refine lv_aload_n hx hb dM_fits_0 rfl (lv_at hl 0 rfl) ?_
  refine va_get (D := (dC, dI)) (ci := 1) (v := .ref (r 4)) (C := "EventPatternsModel") (T := TM) (N := 16) hx hb hbw inM hown hK hP 0 rfl rfl 8 (by decide) (hbw _ kf_M_19) (fun _ h9 => h9) rfl dM_fits_1 ?_
  refine lv_iload_n hx hb dM_fits_4 rfl (lv_at hl 2 rfl) ?_
  refine nr_iald hx hb hK hP 4 0 rfl rfl (j := st) (by omega) (by decide) dM_fits_5 ?_
  refine lv_aload_n hx hb dM_fits_6 rfl (lv_at hl 0 rfl) ?_
  refine va_get (D := (dC, dI)) (ci := 1) (v := .ref (r 2)) (C := "EventPatternsModel") (T := TM) (N := 16) hx hb hbw inM hown hK hP 0 rfl rfl 3 (by decide) (hbw _ kf_M_13) (fun _ h9 => h9) rfl dM_fits_7 ?_
  refine lv_iload_n hx hb dM_fits_10 rfl (lv_at hl 1 rfl) ?_
  refine nr_iald hx hb hK hP 2 0 rfl rfl (j := e1) (by omega) (by decide) dM_fits_11 ?_
  refine lv_ishr hx hb dM_fits_12 ?_
  refine lv_iconst (v := 1) hx hb dM_fits_13 (by decide) ?_
  refine lv_iand hx hb dM_fits_14 ?_
  refine lv_iconst (v := 1) hx hb dM_fits_15 (by decide) ?_
  refine lv_icmp_ne (tgt := 44) hx hb dM_fits_16 (by decide) (fun c_16 => ?_) (fun c_16 => ?_)
  · refine lv_iconst (v := 0) hx hb dM_fits_44 (by decide) ?_
    refine lv_istore (lv' := [(5, .int (0)), (0, .ref (r 0)), (1, .int (nI (e1))), (2, .int (nI (st))), (3, .int (-1)), (4, .int (nI (fi)))]) hx hb dM_fits_45 hl (by decide) rfl (fun ls hl => ?_)
    refine lv_aload_n hx hb dM_fits_47 rfl (lv_at hl 1 rfl) ?_
    refine va_get (D := (dC, dI)) (ci := 1) (v := .ref (r 5)) (C := "EventPatternsModel") (T := TM) (N := 16) hx hb hbw inM hown hK hP 0 rfl rfl 9 (by decide) (hbw _ kf_M_22) (fun _ h9 => h9) rfl dM_fits_48 ?_
    refine lv_iload_n hx hb dM_fits_51 rfl (lv_at hl 3 rfl) ?_
    refine nr_iald hx hb hK hP 5 0 rfl rfl (j := st) (by omega) (by decide) dM_fits_52 ?_
    by_cases t1 : (b 4) (st) = 1
    · refine lv_tableIn (off := 31) (tgt := 84) hx hb dM_fits_53 (by rw [t1]; decide) (by rw [t1]; decide) (by rw [t1]; decide) (by decide) ?_
      refine lv_iload hx hb dM_fits_84 (lv_at hl 0 rfl) ?_
      refine nr_if_eq (tgt := 112) hx hb (a1 := 0) (by omega) dM_fits_86 (by decide) (fun c_86 => ?_) (fun c_86 => ?_)
      · refine lv_iconst (v := 0) hx hb dM_fits_112 (by decide) ?_
        exact W.zret (v := 0) hx hb hr rfl (fun t ht hW => ⟨0, rfl, by first | (simp [mFit0, mFit1, mIs, bI, *]; done) | (subst_vars; simp [mFit0, mFit1, mIs, bI, *]; done) | (subst_vars; simp_all [mFit0, mFit1, mIs, bI]; done), ht⟩) (fun q h => by cases h) dM_fits_113
      · refine lv_iload_n hx hb dM_fits_89 rfl (lv_at hl 4 rfl) ?_
        refine lv_if_lt (tgt := 108) hx hb dM_fits_90 (by decide) (fun _ => ?_) (fun c9 => absurd (by decide) c9)
        refine lv_iconst (v := 1) hx hb dM_fits_108 (by decide) ?_
        refine lv_goto (tgt := 113) hx hb dM_fits_109 (by decide) ?_
        exact W.zret (v := 1) hx hb hr rfl (fun t ht hW => ⟨1, rfl, by first | (simp [mFit0, mFit1, mIs, bI, *]; done) | (subst_vars; simp [mFit0, mFit1, mIs, bI, *]; done) | (subst_vars; simp_all [mFit0, mFit1, mIs, bI]; done), ht⟩) (fun q h => by cases h) dM_fits_113
    by_cases t2 : (b 4) (st) = 2
    · refine lv_tableIn (off := 61) (tgt := 114) hx hb dM_fits_53 (by rw [t2]; decide) (by rw [t2]; decide) (by rw [t2]; decide) (by decide) ?_
      refine lv_iload hx hb dM_fits_114 (lv_at hl 0 rfl) ?_
      refine nr_if_eq (tgt := 142) hx hb (a1 := 0) (by omega) dM_fits_116 (by decide) (fun c_116 => ?_) (fun c_116 => ?_)
      · refine lv_iconst (v := 0) hx hb dM_fits_142 (by decide) ?_
        exact W.zret (v := 0) hx hb hr rfl (fun t ht hW => ⟨0, rfl, by first | (simp [mFit0, mFit1, mIs, bI, *]; done) | (subst_vars; simp [mFit0, mFit1, mIs, bI, *]; done) | (subst_vars; simp_all [mFit0, mFit1, mIs, bI]; done), ht⟩) (fun q h => by cases h) dM_fits_143
      · refine lv_iload_n hx hb dM_fits_119 rfl (lv_at hl 4 rfl) ?_
        refine lv_if_lt (tgt := 138) hx hb dM_fits_120 (by decide) (fun _ => ?_) (fun c9 => absurd (by decide) c9)
        refine lv_iconst (v := 1) hx hb dM_fits_138 (by decide) ?_
        refine lv_goto (tgt := 143) hx hb dM_fits_139 (by decide) ?_
        exact W.zret (v := 1) hx hb hr rfl (fun t ht hW => ⟨1, rfl, by first | (simp [mFit0, mFit1, mIs, bI, *]; done) | (subst_vars; simp [mFit0, mFit1, mIs, bI, *]; done) | (subst_vars; simp_all [mFit0, mFit1, mIs, bI]; done), ht⟩) (fun q h => by cases h) dM_fits_143
    by_cases t3 : (b 4) (st) = 3
    · refine lv_tableIn (off := 91) (tgt := 144) hx hb dM_fits_53 (by rw [t3]; decide) (by rw [t3]; decide) (by rw [t3]; decide) (by decide) ?_
      refine lv_iload hx hb dM_fits_144 (lv_at hl 0 rfl) ?_
      refine nr_if_eq (tgt := 169) hx hb (a1 := 0) (by omega) dM_fits_146 (by decide) (fun c_146 => ?_) (fun c_146 => ?_)
      · refine lv_iconst (v := 0) hx hb dM_fits_169 (by decide) ?_
        exact W.zret (v := 0) hx hb hr rfl (fun t ht hW => ⟨0, rfl, by first | (simp [mFit0, mFit1, mIs, bI, *]; done) | (subst_vars; simp [mFit0, mFit1, mIs, bI, *]; done) | (subst_vars; simp_all [mFit0, mFit1, mIs, bI]; done), ht⟩) (fun q h => by cases h) dM_fits_170
      · refine lv_aload_n hx hb dM_fits_149 rfl (lv_at hl 1 rfl) ?_
        refine va_get (D := (dC, dI)) (ci := 1) (v := .ref (r 3)) (C := "EventPatternsModel") (T := TM) (N := 16) hx hb hbw inM hown hK hP 0 rfl rfl 4 (by decide) (hbw _ kf_M_16) (fun _ h9 => h9) rfl dM_fits_150 ?_
        refine lv_iload_n hx hb dM_fits_153 rfl (lv_at hl 2 rfl) ?_
        refine nr_iald hx hb hK hP 3 0 rfl rfl (j := e1) (by omega) (by decide) dM_fits_154 ?_
        refine lv_aload_n hx hb dM_fits_155 rfl (lv_at hl 1 rfl) ?_
        refine va_get (D := (dC, dI)) (ci := 1) (v := .ref (r 3)) (C := "EventPatternsModel") (T := TM) (N := 16) hx hb hbw inM hown hK hP 0 rfl rfl 4 (by decide) (hbw _ kf_M_16) (fun _ h9 => h9) rfl dM_fits_156 ?_
        refine lv_iload hx hb dM_fits_159 (lv_at hl 5 rfl) ?_
        refine nr_iald hx hb hK hP 3 0 rfl rfl (j := fi) (by omega) (by decide) dM_fits_161 ?_
        refine lv_icmp_ne (tgt := 169) hx hb dM_fits_162 (by decide) (fun c_162 => ?_) (fun c_162 => ?_)
        · refine lv_iconst (v := 0) hx hb dM_fits_169 (by decide) ?_
          exact W.zret (v := 0) hx hb hr rfl (fun t ht hW => ⟨0, rfl, by first | (simp [mFit0, mFit1, mIs, bI, *]; done) | (subst_vars; simp [mFit0, mFit1, mIs, bI, *]; done) | (subst_vars; simp_all [mFit0, mFit1, mIs, bI]; done), ht⟩) (fun q h => by cases h) dM_fits_170
        · refine lv_iconst (v := 1) hx hb dM_fits_165 (by decide) ?_
          refine lv_goto (tgt := 170) hx hb dM_fits_166 (by decide) ?_
          exact W.zret (v := 1) hx hb hr rfl (fun t ht hW => ⟨1, rfl, by first | (simp [mFit0, mFit1, mIs, bI, *]; done) | (subst_vars; simp [mFit0, mFit1, mIs, bI, *]; done) | (subst_vars; simp_all [mFit0, mFit1, mIs, bI]; done), ht⟩) (fun q h => by cases h) dM_fits_170
    by_cases t4 : (b 4) (st) = 4
    · refine lv_tableIn (off := 118) (tgt := 171) hx hb dM_fits_53 (by rw [t4]; decide) (by rw [t4]; decide) (by rw [t4]; decide) (by decide) ?_
      refine lv_iload hx hb dM_fits_171 (lv_at hl 0 rfl) ?_
      refine nr_if_eq (tgt := 195) hx hb (a1 := 0) (by omega) dM_fits_173 (by decide) (fun c_173 => ?_) (fun c_173 => ?_)
      · refine lv_iconst (v := 0) hx hb dM_fits_195 (by decide) ?_
        exact W.zret (v := 0) hx hb hr rfl (fun t ht hW => ⟨0, rfl, by first | (simp [mFit0, mFit1, mIs, bI, *]; done) | (subst_vars; simp [mFit0, mFit1, mIs, bI, *]; done) | (subst_vars; simp_all [mFit0, mFit1, mIs, bI]; done), ht⟩) (fun q h => by cases h) dM_fits_196
      · refine lv_aload_n hx hb dM_fits_176 rfl (lv_at hl 1 rfl) ?_
        refine va_get (D := (dC, dI)) (ci := 1) (v := .ref (r 3)) (C := "EventPatternsModel") (T := TM) (N := 16) hx hb hbw inM hown hK hP 0 rfl rfl 4 (by decide) (hbw _ kf_M_16) (fun _ h9 => h9) rfl dM_fits_177 ?_
        refine lv_iload_n hx hb dM_fits_180 rfl (lv_at hl 2 rfl) ?_
        refine nr_iald hx hb hK hP 3 0 rfl rfl (j := e1) (by omega) (by decide) dM_fits_181 ?_
        refine lv_aload_n hx hb dM_fits_182 rfl (lv_at hl 1 rfl) ?_
        refine va_get (D := (dC, dI)) (ci := 1) (v := .ref (r 6)) (C := "EventPatternsModel") (T := TM) (N := 16) hx hb hbw inM hown hK hP 0 rfl rfl 10 (by decide) (hbw _ kf_M_25) (fun _ h9 => h9) rfl dM_fits_183 ?_
        refine lv_iload_n hx hb dM_fits_186 rfl (lv_at hl 3 rfl) ?_
        refine nr_iald hx hb hK hP 6 0 rfl rfl (j := st) (by omega) (by decide) dM_fits_187 ?_
        refine lv_icmp_lt (tgt := 195) hx hb dM_fits_188 (by decide) (fun c_188 => ?_) (fun c_188 => ?_)
        · refine lv_iconst (v := 0) hx hb dM_fits_195 (by decide) ?_
          exact W.zret (v := 0) hx hb hr rfl (fun t ht hW => ⟨0, rfl, by first | (simp [mFit0, mFit1, mIs, bI, *]; done) | (subst_vars; simp [mFit0, mFit1, mIs, bI, *]; done) | (subst_vars; simp_all [mFit0, mFit1, mIs, bI]; done), ht⟩) (fun q h => by cases h) dM_fits_196
        · refine lv_iconst (v := 1) hx hb dM_fits_191 (by decide) ?_
          refine lv_goto (tgt := 196) hx hb dM_fits_192 (by decide) ?_
          exact W.zret (v := 1) hx hb hr rfl (fun t ht hW => ⟨1, rfl, by first | (simp [mFit0, mFit1, mIs, bI, *]; done) | (subst_vars; simp [mFit0, mFit1, mIs, bI, *]; done) | (subst_vars; simp_all [mFit0, mFit1, mIs, bI]; done), ht⟩) (fun q h => by cases h) dM_fits_196
    have u1 := lv_neT t1 (show (1 : Int32).toInt = 1 from rfl)
    have u2 := lv_neT t2 (show (2 : Int32).toInt = 2 from rfl)
    have u3 := lv_neT t3 (show (3 : Int32).toInt = 3 from rfl)
    have u4 := lv_neT t4 (show (4 : Int32).toInt = 4 from rfl)
    refine lv_tableOut (tgt := 197) hx hb dM_fits_53 (by omega) (by decide) ?_
    refine lv_iload hx hb dM_fits_197 (lv_at hl 0 rfl) ?_
    exact W.zret (v := 0) hx hb hr rfl (fun t ht hW => ⟨0, rfl, by first | (simp [mFit0, mFit1, mIs, bI, *]; done) | (subst_vars; simp [mFit0, mFit1, mIs, bI, *]; done) | (subst_vars; simp_all [mFit0, mFit1, mIs, bI]; done), ht⟩) (fun q h => by cases h) dM_fits_199
  · refine lv_aload_n hx hb dM_fits_19 rfl (lv_at hl 0 rfl) ?_
    refine va_get (D := (dC, dI)) (ci := 1) (v := .ref (r 1)) (C := "EventPatternsModel") (T := TM) (N := 16) hx hb hbw inM hown hK hP 0 rfl rfl 2 (by decide) (hbw _ kf_M_7) (fun _ h9 => h9) rfl dM_fits_20 ?_
    refine lv_iload_n hx hb dM_fits_23 rfl (lv_at hl 1 rfl) ?_
    refine nr_iald hx hb hK hP 1 0 rfl rfl (j := e1) (by omega) (by decide) dM_fits_24 ?_
    refine lv_aload_n hx hb dM_fits_25 rfl (lv_at hl 0 rfl) ?_
    refine va_get (D := (dC, dI)) (ci := 1) (v := .ref (r 1)) (C := "EventPatternsModel") (T := TM) (N := 16) hx hb hbw inM hown hK hP 0 rfl rfl 2 (by decide) (hbw _ kf_M_7) (fun _ h9 => h9) rfl dM_fits_26 ?_
    refine lv_iload hx hb dM_fits_29 (lv_at hl 4 rfl) ?_
    refine nr_iald hx hb hK hP 1 0 rfl rfl (j := fi) (by omega) (by decide) dM_fits_31 ?_
    refine lv_isub hx hb dM_fits_32 ?_
    refine lv_aload_n hx hb dM_fits_33 rfl (lv_at hl 0 rfl) ?_
    refine va_get (D := (dC, dI)) (ci := 1) (v := .int (g 3)) (C := "EventPatternsModel") (T := TM) (N := 16) hx hb hbw inM hown hK hP 0 rfl rfl 6 (by decide) (hbw _ kf_M_60) (fun _ h9 => h9) rfl dM_fits_34 ?_
    refine lv_icmp_gt (tgt := 44) hx hb dM_fits_37 (by decide) (fun c_37 => ?_) (fun c_37 => ?_)
    · refine lv_iconst (v := 0) hx hb dM_fits_44 (by decide) ?_
      refine lv_istore (lv' := [(5, .int (0)), (0, .ref (r 0)), (1, .int (nI (e1))), (2, .int (nI (st))), (3, .int (-1)), (4, .int (nI (fi)))]) hx hb dM_fits_45 hl (by decide) rfl (fun ls hl => ?_)
      refine lv_aload_n hx hb dM_fits_47 rfl (lv_at hl 1 rfl) ?_
      refine va_get (D := (dC, dI)) (ci := 1) (v := .ref (r 5)) (C := "EventPatternsModel") (T := TM) (N := 16) hx hb hbw inM hown hK hP 0 rfl rfl 9 (by decide) (hbw _ kf_M_22) (fun _ h9 => h9) rfl dM_fits_48 ?_
      refine lv_iload_n hx hb dM_fits_51 rfl (lv_at hl 3 rfl) ?_
      refine nr_iald hx hb hK hP 5 0 rfl rfl (j := st) (by omega) (by decide) dM_fits_52 ?_
      by_cases t1 : (b 4) (st) = 1
      · refine lv_tableIn (off := 31) (tgt := 84) hx hb dM_fits_53 (by rw [t1]; decide) (by rw [t1]; decide) (by rw [t1]; decide) (by decide) ?_
        refine lv_iload hx hb dM_fits_84 (lv_at hl 0 rfl) ?_
        refine nr_if_eq (tgt := 112) hx hb (a1 := 0) (by omega) dM_fits_86 (by decide) (fun c_86 => ?_) (fun c_86 => ?_)
        · refine lv_iconst (v := 0) hx hb dM_fits_112 (by decide) ?_
          exact W.zret (v := 0) hx hb hr rfl (fun t ht hW => ⟨0, rfl, by first | (simp [mFit0, mFit1, mIs, bI, *]; done) | (subst_vars; simp [mFit0, mFit1, mIs, bI, *]; done) | (subst_vars; simp_all [mFit0, mFit1, mIs, bI]; done), ht⟩) (fun q h => by cases h) dM_fits_113
        · refine lv_iload_n hx hb dM_fits_89 rfl (lv_at hl 4 rfl) ?_
          refine lv_if_lt (tgt := 108) hx hb dM_fits_90 (by decide) (fun _ => ?_) (fun c9 => absurd (by decide) c9)
          refine lv_iconst (v := 1) hx hb dM_fits_108 (by decide) ?_
          refine lv_goto (tgt := 113) hx hb dM_fits_109 (by decide) ?_
          exact W.zret (v := 1) hx hb hr rfl (fun t ht hW => ⟨1, rfl, by first | (simp [mFit0, mFit1, mIs, bI, *]; done) | (subst_vars; simp [mFit0, mFit1, mIs, bI, *]; done) | (subst_vars; simp_all [mFit0, mFit1, mIs, bI]; done), ht⟩) (fun q h => by cases h) dM_fits_113
      by_cases t2 : (b 4) (st) = 2
      · refine lv_tableIn (off := 61) (tgt := 114) hx hb dM_fits_53 (by rw [t2]; decide) (by rw [t2]; decide) (by rw [t2]; decide) (by decide) ?_
        refine lv_iload hx hb dM_fits_114 (lv_at hl 0 rfl) ?_
        refine nr_if_eq (tgt := 142) hx hb (a1 := 0) (by omega) dM_fits_116 (by decide) (fun c_116 => ?_) (fun c_116 => ?_)
        · refine lv_iconst (v := 0) hx hb dM_fits_142 (by decide) ?_
          exact W.zret (v := 0) hx hb hr rfl (fun t ht hW => ⟨0, rfl, by first | (simp [mFit0, mFit1, mIs, bI, *]; done) | (subst_vars; simp [mFit0, mFit1, mIs, bI, *]; done) | (subst_vars; simp_all [mFit0, mFit1, mIs, bI]; done), ht⟩) (fun q h => by cases h) dM_fits_143
        · refine lv_iload_n hx hb dM_fits_119 rfl (lv_at hl 4 rfl) ?_
          refine lv_if_lt (tgt := 138) hx hb dM_fits_120 (by decide) (fun _ => ?_) (fun c9 => absurd (by decide) c9)
          refine lv_iconst (v := 1) hx hb dM_fits_138 (by decide) ?_
          refine lv_goto (tgt := 143) hx hb dM_fits_139 (by decide) ?_
          exact W.zret (v := 1) hx hb hr rfl (fun t ht hW => ⟨1, rfl, by first | (simp [mFit0, mFit1, mIs, bI, *]; done) | (subst_vars; simp [mFit0, mFit1, mIs, bI, *]; done) | (subst_vars; simp_all [mFit0, mFit1, mIs, bI]; done), ht⟩) (fun q h => by cases h) dM_fits_143
      by_cases t3 : (b 4) (st) = 3
      · refine lv_tableIn (off := 91) (tgt := 144) hx hb dM_fits_53 (by rw [t3]; decide) (by rw [t3]; decide) (by rw [t3]; decide) (by decide) ?_
        refine lv_iload hx hb dM_fits_144 (lv_at hl 0 rfl) ?_
        refine nr_if_eq (tgt := 169) hx hb (a1 := 0) (by omega) dM_fits_146 (by decide) (fun c_146 => ?_) (fun c_146 => ?_)
        · refine lv_iconst (v := 0) hx hb dM_fits_169 (by decide) ?_
          exact W.zret (v := 0) hx hb hr rfl (fun t ht hW => ⟨0, rfl, by first | (simp [mFit0, mFit1, mIs, bI, *]; done) | (subst_vars; simp [mFit0, mFit1, mIs, bI, *]; done) | (subst_vars; simp_all [mFit0, mFit1, mIs, bI]; done), ht⟩) (fun q h => by cases h) dM_fits_170
        · refine lv_aload_n hx hb dM_fits_149 rfl (lv_at hl 1 rfl) ?_
          refine va_get (D := (dC, dI)) (ci := 1) (v := .ref (r 3)) (C := "EventPatternsModel") (T := TM) (N := 16) hx hb hbw inM hown hK hP 0 rfl rfl 4 (by decide) (hbw _ kf_M_16) (fun _ h9 => h9) rfl dM_fits_150 ?_
          refine lv_iload_n hx hb dM_fits_153 rfl (lv_at hl 2 rfl) ?_
          refine nr_iald hx hb hK hP 3 0 rfl rfl (j := e1) (by omega) (by decide) dM_fits_154 ?_
          refine lv_aload_n hx hb dM_fits_155 rfl (lv_at hl 1 rfl) ?_
          refine va_get (D := (dC, dI)) (ci := 1) (v := .ref (r 3)) (C := "EventPatternsModel") (T := TM) (N := 16) hx hb hbw inM hown hK hP 0 rfl rfl 4 (by decide) (hbw _ kf_M_16) (fun _ h9 => h9) rfl dM_fits_156 ?_
          refine lv_iload hx hb dM_fits_159 (lv_at hl 5 rfl) ?_
          refine nr_iald hx hb hK hP 3 0 rfl rfl (j := fi) (by omega) (by decide) dM_fits_161 ?_
          refine lv_icmp_ne (tgt := 169) hx hb dM_fits_162 (by decide) (fun c_162 => ?_) (fun c_162 => ?_)
          · refine lv_iconst (v := 0) hx hb dM_fits_169 (by decide) ?_
            exact W.zret (v := 0) hx hb hr rfl (fun t ht hW => ⟨0, rfl, by first | (simp [mFit0, mFit1, mIs, bI, *]; done) | (subst_vars; simp [mFit0, mFit1, mIs, bI, *]; done) | (subst_vars; simp_all [mFit0, mFit1, mIs, bI]; done), ht⟩) (fun q h => by cases h) dM_fits_170
          · refine lv_iconst (v := 1) hx hb dM_fits_165 (by decide) ?_
            refine lv_goto (tgt := 170) hx hb dM_fits_166 (by decide) ?_
            exact W.zret (v := 1) hx hb hr rfl (fun t ht hW => ⟨1, rfl, by first | (simp [mFit0, mFit1, mIs, bI, *]; done) | (subst_vars; simp [mFit0, mFit1, mIs, bI, *]; done) | (subst_vars; simp_all [mFit0, mFit1, mIs, bI]; done), ht⟩) (fun q h => by cases h) dM_fits_170
      by_cases t4 : (b 4) (st) = 4
      · refine lv_tableIn (off := 118) (tgt := 171) hx hb dM_fits_53 (by rw [t4]; decide) (by rw [t4]; decide) (by rw [t4]; decide) (by decide) ?_
        refine lv_iload hx hb dM_fits_171 (lv_at hl 0 rfl) ?_
        refine nr_if_eq (tgt := 195) hx hb (a1 := 0) (by omega) dM_fits_173 (by decide) (fun c_173 => ?_) (fun c_173 => ?_)
        · refine lv_iconst (v := 0) hx hb dM_fits_195 (by decide) ?_
          exact W.zret (v := 0) hx hb hr rfl (fun t ht hW => ⟨0, rfl, by first | (simp [mFit0, mFit1, mIs, bI, *]; done) | (subst_vars; simp [mFit0, mFit1, mIs, bI, *]; done) | (subst_vars; simp_all [mFit0, mFit1, mIs, bI]; done), ht⟩) (fun q h => by cases h) dM_fits_196
        · refine lv_aload_n hx hb dM_fits_176 rfl (lv_at hl 1 rfl) ?_
          refine va_get (D := (dC, dI)) (ci := 1) (v := .ref (r 3)) (C := "EventPatternsModel") (T := TM) (N := 16) hx hb hbw inM hown hK hP 0 rfl rfl 4 (by decide) (hbw _ kf_M_16) (fun _ h9 => h9) rfl dM_fits_177 ?_
          refine lv_iload_n hx hb dM_fits_180 rfl (lv_at hl 2 rfl) ?_
          refine nr_iald hx hb hK hP 3 0 rfl rfl (j := e1) (by omega) (by decide) dM_fits_181 ?_
          refine lv_aload_n hx hb dM_fits_182 rfl (lv_at hl 1 rfl) ?_
          refine va_get (D := (dC, dI)) (ci := 1) (v := .ref (r 6)) (C := "EventPatternsModel") (T := TM) (N := 16) hx hb hbw inM hown hK hP 0 rfl rfl 10 (by decide) (hbw _ kf_M_25) (fun _ h9 => h9) rfl dM_fits_183 ?_
          refine lv_iload_n hx hb dM_fits_186 rfl (lv_at hl 3 rfl) ?_
          refine nr_iald hx hb hK hP 6 0 rfl rfl (j := st) (by omega) (by decide) dM_fits_187 ?_
          refine lv_icmp_lt (tgt := 195) hx hb dM_fits_188 (by decide) (fun c_188 => ?_) (fun c_188 => ?_)
          · refine lv_iconst (v := 0) hx hb dM_fits_195 (by decide) ?_
            exact W.zret (v := 0) hx hb hr rfl (fun t ht hW => ⟨0, rfl, by first | (simp [mFit0, mFit1, mIs, bI, *]; done) | (subst_vars; simp [mFit0, mFit1, mIs, bI, *]; done) | (subst_vars; simp_all [mFit0, mFit1, mIs, bI]; done), ht⟩) (fun q h => by cases h) dM_fits_196
          · refine lv_iconst (v := 1) hx hb dM_fits_191 (by decide) ?_
            refine lv_goto (tgt := 196) hx hb dM_fits_192 (by decide) ?_
            exact W.zret (v := 1) hx hb hr rfl (fun t ht hW => ⟨1, rfl, by first | (simp [mFit0, mFit1, mIs, bI, *]; done) | (subst_vars; simp [mFit0, mFit1, mIs, bI, *]; done) | (subst_vars; simp_all [mFit0, mFit1, mIs, bI]; done), ht⟩) (fun q h => by cases h) dM_fits_196
      have u1 := lv_neT t1 (show (1 : Int32).toInt = 1 from rfl)
      have u2 := lv_neT t2 (show (2 : Int32).toInt = 2 from rfl)
      have u3 := lv_neT t3 (show (3 : Int32).toInt = 3 from rfl)
      have u4 := lv_neT t4 (show (4 : Int32).toInt = 4 from rfl)
      refine lv_tableOut (tgt := 197) hx hb dM_fits_53 (by omega) (by decide) ?_
      refine lv_iload hx hb dM_fits_197 (lv_at hl 0 rfl) ?_
      exact W.zret (v := 0) hx hb hr rfl (fun t ht hW => ⟨0, rfl, by first | (simp [mFit0, mFit1, mIs, bI, *]; done) | (subst_vars; simp [mFit0, mFit1, mIs, bI, *]; done) | (subst_vars; simp_all [mFit0, mFit1, mIs, bI]; done), ht⟩) (fun q h => by cases h) dM_fits_199
    · refine lv_iconst (v := 1) hx hb dM_fits_40 (by decide) ?_
      refine lv_goto (tgt := 45) hx hb dM_fits_41 (by decide) ?_
      refine lv_istore (lv' := [(5, .int (1)), (0, .ref (r 0)), (1, .int (nI (e1))), (2, .int (nI (st))), (3, .int (-1)), (4, .int (nI (fi)))]) hx hb dM_fits_45 hl (by decide) rfl (fun ls hl => ?_)
      refine lv_aload_n hx hb dM_fits_47 rfl (lv_at hl 1 rfl) ?_
      refine va_get (D := (dC, dI)) (ci := 1) (v := .ref (r 5)) (C := "EventPatternsModel") (T := TM) (N := 16) hx hb hbw inM hown hK hP 0 rfl rfl 9 (by decide) (hbw _ kf_M_22) (fun _ h9 => h9) rfl dM_fits_48 ?_
      refine lv_iload_n hx hb dM_fits_51 rfl (lv_at hl 3 rfl) ?_
      refine nr_iald hx hb hK hP 5 0 rfl rfl (j := st) (by omega) (by decide) dM_fits_52 ?_
      by_cases t1 : (b 4) (st) = 1
      · refine lv_tableIn (off := 31) (tgt := 84) hx hb dM_fits_53 (by rw [t1]; decide) (by rw [t1]; decide) (by rw [t1]; decide) (by decide) ?_
        refine lv_iload hx hb dM_fits_84 (lv_at hl 0 rfl) ?_
        refine nr_if_eq (tgt := 112) hx hb (a1 := 1) (by omega) dM_fits_86 (by decide) (fun c_86 => ?_) (fun c_86 => ?_)
        · refine lv_iconst (v := 0) hx hb dM_fits_112 (by decide) ?_
          exact W.zret (v := 0) hx hb hr rfl (fun t ht hW => ⟨0, rfl, by first | (simp [mFit0, mFit1, mIs, bI, *]; done) | (subst_vars; simp [mFit0, mFit1, mIs, bI, *]; done) | (subst_vars; simp_all [mFit0, mFit1, mIs, bI]; done), ht⟩) (fun q h => by cases h) dM_fits_113
        · refine lv_iload_n hx hb dM_fits_89 rfl (lv_at hl 4 rfl) ?_
          refine lv_if_lt (tgt := 108) hx hb dM_fits_90 (by decide) (fun _ => ?_) (fun c9 => absurd (by decide) c9)
          refine lv_iconst (v := 1) hx hb dM_fits_108 (by decide) ?_
          refine lv_goto (tgt := 113) hx hb dM_fits_109 (by decide) ?_
          exact W.zret (v := 1) hx hb hr rfl (fun t ht hW => ⟨1, rfl, by first | (simp [mFit0, mFit1, mIs, bI, *]; done) | (subst_vars; simp [mFit0, mFit1, mIs, bI, *]; done) | (subst_vars; simp_all [mFit0, mFit1, mIs, bI]; done), ht⟩) (fun q h => by cases h) dM_fits_113
      by_cases t2 : (b 4) (st) = 2
      · refine lv_tableIn (off := 61) (tgt := 114) hx hb dM_fits_53 (by rw [t2]; decide) (by rw [t2]; decide) (by rw [t2]; decide) (by decide) ?_
        refine lv_iload hx hb dM_fits_114 (lv_at hl 0 rfl) ?_
        refine nr_if_eq (tgt := 142) hx hb (a1 := 1) (by omega) dM_fits_116 (by decide) (fun c_116 => ?_) (fun c_116 => ?_)
        · refine lv_iconst (v := 0) hx hb dM_fits_142 (by decide) ?_
          exact W.zret (v := 0) hx hb hr rfl (fun t ht hW => ⟨0, rfl, by first | (simp [mFit0, mFit1, mIs, bI, *]; done) | (subst_vars; simp [mFit0, mFit1, mIs, bI, *]; done) | (subst_vars; simp_all [mFit0, mFit1, mIs, bI]; done), ht⟩) (fun q h => by cases h) dM_fits_143
        · refine lv_iload_n hx hb dM_fits_119 rfl (lv_at hl 4 rfl) ?_
          refine lv_if_lt (tgt := 138) hx hb dM_fits_120 (by decide) (fun _ => ?_) (fun c9 => absurd (by decide) c9)
          refine lv_iconst (v := 1) hx hb dM_fits_138 (by decide) ?_
          refine lv_goto (tgt := 143) hx hb dM_fits_139 (by decide) ?_
          exact W.zret (v := 1) hx hb hr rfl (fun t ht hW => ⟨1, rfl, by first | (simp [mFit0, mFit1, mIs, bI, *]; done) | (subst_vars; simp [mFit0, mFit1, mIs, bI, *]; done) | (subst_vars; simp_all [mFit0, mFit1, mIs, bI]; done), ht⟩) (fun q h => by cases h) dM_fits_143
      by_cases t3 : (b 4) (st) = 3
      · refine lv_tableIn (off := 91) (tgt := 144) hx hb dM_fits_53 (by rw [t3]; decide) (by rw [t3]; decide) (by rw [t3]; decide) (by decide) ?_
        refine lv_iload hx hb dM_fits_144 (lv_at hl 0 rfl) ?_
        refine nr_if_eq (tgt := 169) hx hb (a1 := 1) (by omega) dM_fits_146 (by decide) (fun c_146 => ?_) (fun c_146 => ?_)
        · refine lv_iconst (v := 0) hx hb dM_fits_169 (by decide) ?_
          exact W.zret (v := 0) hx hb hr rfl (fun t ht hW => ⟨0, rfl, by first | (simp [mFit0, mFit1, mIs, bI, *]; done) | (subst_vars; simp [mFit0, mFit1, mIs, bI, *]; done) | (subst_vars; simp_all [mFit0, mFit1, mIs, bI]; done), ht⟩) (fun q h => by cases h) dM_fits_170
        · refine lv_aload_n hx hb dM_fits_149 rfl (lv_at hl 1 rfl) ?_
          refine va_get (D := (dC, dI)) (ci := 1) (v := .ref (r 3)) (C := "EventPatternsModel") (T := TM) (N := 16) hx hb hbw inM hown hK hP 0 rfl rfl 4 (by decide) (hbw _ kf_M_16) (fun _ h9 => h9) rfl dM_fits_150 ?_
          refine lv_iload_n hx hb dM_fits_153 rfl (lv_at hl 2 rfl) ?_
          refine nr_iald hx hb hK hP 3 0 rfl rfl (j := e1) (by omega) (by decide) dM_fits_154 ?_
          refine lv_aload_n hx hb dM_fits_155 rfl (lv_at hl 1 rfl) ?_
          refine va_get (D := (dC, dI)) (ci := 1) (v := .ref (r 3)) (C := "EventPatternsModel") (T := TM) (N := 16) hx hb hbw inM hown hK hP 0 rfl rfl 4 (by decide) (hbw _ kf_M_16) (fun _ h9 => h9) rfl dM_fits_156 ?_
          refine lv_iload hx hb dM_fits_159 (lv_at hl 5 rfl) ?_
          refine nr_iald hx hb hK hP 3 0 rfl rfl (j := fi) (by omega) (by decide) dM_fits_161 ?_
          refine lv_icmp_ne (tgt := 169) hx hb dM_fits_162 (by decide) (fun c_162 => ?_) (fun c_162 => ?_)
          · refine lv_iconst (v := 0) hx hb dM_fits_169 (by decide) ?_
            exact W.zret (v := 0) hx hb hr rfl (fun t ht hW => ⟨0, rfl, by first | (simp [mFit0, mFit1, mIs, bI, *]; done) | (subst_vars; simp [mFit0, mFit1, mIs, bI, *]; done) | (subst_vars; simp_all [mFit0, mFit1, mIs, bI]; done), ht⟩) (fun q h => by cases h) dM_fits_170
          · refine lv_iconst (v := 1) hx hb dM_fits_165 (by decide) ?_
            refine lv_goto (tgt := 170) hx hb dM_fits_166 (by decide) ?_
            exact W.zret (v := 1) hx hb hr rfl (fun t ht hW => ⟨1, rfl, by first | (simp [mFit0, mFit1, mIs, bI, *]; done) | (subst_vars; simp [mFit0, mFit1, mIs, bI, *]; done) | (subst_vars; simp_all [mFit0, mFit1, mIs, bI]; done), ht⟩) (fun q h => by cases h) dM_fits_170
      by_cases t4 : (b 4) (st) = 4
      · refine lv_tableIn (off := 118) (tgt := 171) hx hb dM_fits_53 (by rw [t4]; decide) (by rw [t4]; decide) (by rw [t4]; decide) (by decide) ?_
        refine lv_iload hx hb dM_fits_171 (lv_at hl 0 rfl) ?_
        refine nr_if_eq (tgt := 195) hx hb (a1 := 1) (by omega) dM_fits_173 (by decide) (fun c_173 => ?_) (fun c_173 => ?_)
        · refine lv_iconst (v := 0) hx hb dM_fits_195 (by decide) ?_
          exact W.zret (v := 0) hx hb hr rfl (fun t ht hW => ⟨0, rfl, by first | (simp [mFit0, mFit1, mIs, bI, *]; done) | (subst_vars; simp [mFit0, mFit1, mIs, bI, *]; done) | (subst_vars; simp_all [mFit0, mFit1, mIs, bI]; done), ht⟩) (fun q h => by cases h) dM_fits_196
        · refine lv_aload_n hx hb dM_fits_176 rfl (lv_at hl 1 rfl) ?_
          refine va_get (D := (dC, dI)) (ci := 1) (v := .ref (r 3)) (C := "EventPatternsModel") (T := TM) (N := 16) hx hb hbw inM hown hK hP 0 rfl rfl 4 (by decide) (hbw _ kf_M_16) (fun _ h9 => h9) rfl dM_fits_177 ?_
          refine lv_iload_n hx hb dM_fits_180 rfl (lv_at hl 2 rfl) ?_
          refine nr_iald hx hb hK hP 3 0 rfl rfl (j := e1) (by omega) (by decide) dM_fits_181 ?_
          refine lv_aload_n hx hb dM_fits_182 rfl (lv_at hl 1 rfl) ?_
          refine va_get (D := (dC, dI)) (ci := 1) (v := .ref (r 6)) (C := "EventPatternsModel") (T := TM) (N := 16) hx hb hbw inM hown hK hP 0 rfl rfl 10 (by decide) (hbw _ kf_M_25) (fun _ h9 => h9) rfl dM_fits_183 ?_
          refine lv_iload_n hx hb dM_fits_186 rfl (lv_at hl 3 rfl) ?_
          refine nr_iald hx hb hK hP 6 0 rfl rfl (j := st) (by omega) (by decide) dM_fits_187 ?_
          refine lv_icmp_lt (tgt := 195) hx hb dM_fits_188 (by decide) (fun c_188 => ?_) (fun c_188 => ?_)
          · refine lv_iconst (v := 0) hx hb dM_fits_195 (by decide) ?_
            exact W.zret (v := 0) hx hb hr rfl (fun t ht hW => ⟨0, rfl, by first | (simp [mFit0, mFit1, mIs, bI, *]; done) | (subst_vars; simp [mFit0, mFit1, mIs, bI, *]; done) | (subst_vars; simp_all [mFit0, mFit1, mIs, bI]; done), ht⟩) (fun q h => by cases h) dM_fits_196
          · refine lv_iconst (v := 1) hx hb dM_fits_191 (by decide) ?_
            refine lv_goto (tgt := 196) hx hb dM_fits_192 (by decide) ?_
            exact W.zret (v := 1) hx hb hr rfl (fun t ht hW => ⟨1, rfl, by first | (simp [mFit0, mFit1, mIs, bI, *]; done) | (subst_vars; simp [mFit0, mFit1, mIs, bI, *]; done) | (subst_vars; simp_all [mFit0, mFit1, mIs, bI]; done), ht⟩) (fun q h => by cases h) dM_fits_196
      have u1 := lv_neT t1 (show (1 : Int32).toInt = 1 from rfl)
      have u2 := lv_neT t2 (show (2 : Int32).toInt = 2 from rfl)
      have u3 := lv_neT t3 (show (3 : Int32).toInt = 3 from rfl)
      have u4 := lv_neT t4 (show (4 : Int32).toInt = 4 from rfl)
      refine lv_tableOut (tgt := 197) hx hb dM_fits_53 (by omega) (by decide) ?_
      refine lv_iload hx hb dM_fits_197 (lv_at hl 0 rfl) ?_
      exact W.zret (v := 1) hx hb hr rfl (fun t ht hW => ⟨1, rfl, by first | (simp [mFit0, mFit1, mIs, bI, *]; done) | (subst_vars; simp [mFit0, mFit1, mIs, bI, *]; done) | (subst_vars; simp_all [mFit0, mFit1, mIs, bI]; done), ht⟩) (fun q h => by cases h) dM_fits_199
set_option maxHeartbeats 4000000 in
set_option maxRecDepth 100000 in
/-- fits(e, s, before, first) -/
theorem tM_fits1 (l : Launch) (dC : Nat → ClassId) (dI : Nat → Nat → Nat) (r : Nat → Nat) (cI cZ cG : ClassId) (b : Nat → Nat → Int32) (g : Nat → Int32) (e1 st bf fi : Nat) (h1 : e1 < 400) (h2 : st < 5) (h3 : bf < 400) (h4 : fi < 400) : Met l yM_fits wM_fits ({ frames := 0, cells := 0, slots := 0, locals := 0 }) (va_Pc [.ref (r 0), .int (nI (e1)), .int (nI (st)), .int (nI (bf)), .int (nI (fi))] (fun U => va_P (dC, dI) cls2 (mw r cI cZ b g) U.heap ∧ va_K (dC, dI) cls2 (xt cI cZ cG) U)) (vp_Si (fun r0 => r0 = bI (mFit1 b g e1 st bf fi))) 0 0 (fun _ => False) := by
  refine Met.ofW (cc := cM_fits) (maxL := 6) (ret := (some .boolean)) (by decide) rfl ?_
  intro p e s m args below meth c s₁ B hml hv
  obtain ⟨rfl, hP, hK⟩ := hv
  have hx := B.exec
  have hb := B.bytes
  have hr := B.returns
  have hbw : ∀ w ∈ bw, w.before _ s = true := fun w h => atoms_spec (ws := wM_fits) B.pre w (List.mem_cons_of_mem _ h)
  have hown : s.vm.findClass "EventPatternsModel" = some m.cls := findClass_of_methodNamed B.named
  have hlocks := B.notSynchronized
  have hl := lv_entry ([.ref (r 0), .int (nI (e1)), .int (nI (st)), .int (nI (bf)), .int (nI (fi))]) (n := 6) (Nat.le_of_ble_eq_true rfl)
  rw [lg_entry_eq]
  generalize (lg_sl ([.ref (r 0), .int (nI (e1)), .int (nI (st)), .int (nI (bf)), .int (nI (fi))]) ++ List.replicate (6 - (lg_sl ([.ref (r 0), .int (nI (e1)), .int (nI (st)), .int (nI (bf)), .int (nI (fi))])).length) Slot.unset).toArray = ls at hl ⊢
  have hl : lv_has ls 6 [(0, .ref (r 0)), (1, .int (nI (e1))), (2, .int (nI (st))), (3, .int (nI (bf))), (4, .int (nI (fi)))] := hl
  refine lv_aload_n hx hb dM_fits_0 rfl (lv_at hl 0 rfl) ?_
  refine va_get (D := (dC, dI)) (ci := 1) (v := .ref (r 4)) (C := "EventPatternsModel") (T := TM) (N := 16) hx hb hbw inM hown hK hP 0 rfl rfl 8 (by decide) (hbw _ kf_M_19) (fun _ h9 => h9) rfl dM_fits_1 ?_
  refine lv_iload_n hx hb dM_fits_4 rfl (lv_at hl 2 rfl) ?_
  refine nr_iald hx hb hK hP 4 0 rfl rfl (j := st) (by omega) (by decide) dM_fits_5 ?_
  refine lv_aload_n hx hb dM_fits_6 rfl (lv_at hl 0 rfl) ?_
  refine va_get (D := (dC, dI)) (ci := 1) (v := .ref (r 2)) (C := "EventPatternsModel") (T := TM) (N := 16) hx hb hbw inM hown hK hP 0 rfl rfl 3 (by decide) (hbw _ kf_M_13) (fun _ h9 => h9) rfl dM_fits_7 ?_
  refine lv_iload_n hx hb dM_fits_10 rfl (lv_at hl 1 rfl) ?_
  refine nr_iald hx hb hK hP 2 0 rfl rfl (j := e1) (by omega) (by decide) dM_fits_11 ?_
  refine lv_ishr hx hb dM_fits_12 ?_
  refine lv_iconst (v := 1) hx hb dM_fits_13 (by decide) ?_
  refine lv_iand hx hb dM_fits_14 ?_
  refine lv_iconst (v := 1) hx hb dM_fits_15 (by decide) ?_
  refine lv_icmp_ne (tgt := 44) hx hb dM_fits_16 (by decide) (fun c_16 => ?_) (fun c_16 => ?_)
  · refine lv_iconst (v := 0) hx hb dM_fits_44 (by decide) ?_
    refine lv_istore (lv' := [(5, .int (0)), (0, .ref (r 0)), (1, .int (nI (e1))), (2, .int (nI (st))), (3, .int (nI (bf))), (4, .int (nI (fi)))]) hx hb dM_fits_45 hl (by decide) rfl (fun ls hl => ?_)
    refine lv_aload_n hx hb dM_fits_47 rfl (lv_at hl 1 rfl) ?_
    refine va_get (D := (dC, dI)) (ci := 1) (v := .ref (r 5)) (C := "EventPatternsModel") (T := TM) (N := 16) hx hb hbw inM hown hK hP 0 rfl rfl 9 (by decide) (hbw _ kf_M_22) (fun _ h9 => h9) rfl dM_fits_48 ?_
    refine lv_iload_n hx hb dM_fits_51 rfl (lv_at hl 3 rfl) ?_
    refine nr_iald hx hb hK hP 5 0 rfl rfl (j := st) (by omega) (by decide) dM_fits_52 ?_
    by_cases t1 : (b 4) (st) = 1
    · refine lv_tableIn (off := 31) (tgt := 84) hx hb dM_fits_53 (by rw [t1]; decide) (by rw [t1]; decide) (by rw [t1]; decide) (by decide) ?_
      refine lv_iload hx hb dM_fits_84 (lv_at hl 0 rfl) ?_
      refine nr_if_eq (tgt := 112) hx hb (a1 := 0) (by omega) dM_fits_86 (by decide) (fun c_86 => ?_) (fun c_86 => ?_)
      · refine lv_iconst (v := 0) hx hb dM_fits_112 (by decide) ?_
        exact W.zret (v := 0) hx hb hr rfl (fun t ht hW => ⟨0, rfl, by first | (simp [mFit0, mFit1, mIs, bI, *]; done) | (subst_vars; simp [mFit0, mFit1, mIs, bI, *]; done) | (subst_vars; simp_all [mFit0, mFit1, mIs, bI]; done), ht⟩) (fun q h => by cases h) dM_fits_113
      · refine lv_iload_n hx hb dM_fits_89 rfl (lv_at hl 4 rfl) ?_
        refine nr_if_lt (tgt := 108) hx hb (a1 := bf) (by omega) dM_fits_90 (by decide) (fun c9 => absurd c9 (by omega)) (fun _ => ?_)
        refine lv_aload_n hx hb dM_fits_93 rfl (lv_at hl 1 rfl) ?_
        refine va_get (D := (dC, dI)) (ci := 1) (v := .ref (r 3)) (C := "EventPatternsModel") (T := TM) (N := 16) hx hb hbw inM hown hK hP 0 rfl rfl 4 (by decide) (hbw _ kf_M_16) (fun _ h9 => h9) rfl dM_fits_94 ?_
        refine lv_iload_n hx hb dM_fits_97 rfl (lv_at hl 2 rfl) ?_
        refine nr_iald hx hb hK hP 3 0 rfl rfl (j := e1) (by omega) (by decide) dM_fits_98 ?_
        refine lv_aload_n hx hb dM_fits_99 rfl (lv_at hl 1 rfl) ?_
        refine va_get (D := (dC, dI)) (ci := 1) (v := .ref (r 3)) (C := "EventPatternsModel") (T := TM) (N := 16) hx hb hbw inM hown hK hP 0 rfl rfl 4 (by decide) (hbw _ kf_M_16) (fun _ h9 => h9) rfl dM_fits_100 ?_
        refine lv_iload_n hx hb dM_fits_103 rfl (lv_at hl 4 rfl) ?_
        refine nr_iald hx hb hK hP 3 0 rfl rfl (j := bf) (by omega) (by decide) dM_fits_104 ?_
        refine lv_icmp_le (tgt := 112) hx hb dM_fits_105 (by decide) (fun c_105 => ?_) (fun c_105 => ?_)
        · refine lv_iconst (v := 0) hx hb dM_fits_112 (by decide) ?_
          exact W.zret (v := 0) hx hb hr rfl (fun t ht hW => ⟨0, rfl, by first | (simp [mFit0, mFit1, mIs, bI, *]; done) | (subst_vars; simp [mFit0, mFit1, mIs, bI, *]; done) | (subst_vars; simp_all [mFit0, mFit1, mIs, bI]; done), ht⟩) (fun q h => by cases h) dM_fits_113
        · refine lv_iconst (v := 1) hx hb dM_fits_108 (by decide) ?_
          refine lv_goto (tgt := 113) hx hb dM_fits_109 (by decide) ?_
          exact W.zret (v := 1) hx hb hr rfl (fun t ht hW => ⟨1, rfl, by first | (simp [mFit0, mFit1, mIs, bI, *]; done) | (subst_vars; simp [mFit0, mFit1, mIs, bI, *]; done) | (subst_vars; simp_all [mFit0, mFit1, mIs, bI]; done), ht⟩) (fun q h => by cases h) dM_fits_113
    by_cases t2 : (b 4) (st) = 2
    · refine lv_tableIn (off := 61) (tgt := 114) hx hb dM_fits_53 (by rw [t2]; decide) (by rw [t2]; decide) (by rw [t2]; decide) (by decide) ?_
      refine lv_iload hx hb dM_fits_114 (lv_at hl 0 rfl) ?_
      refine nr_if_eq (tgt := 142) hx hb (a1 := 0) (by omega) dM_fits_116 (by decide) (fun c_116 => ?_) (fun c_116 => ?_)
      · refine lv_iconst (v := 0) hx hb dM_fits_142 (by decide) ?_
        exact W.zret (v := 0) hx hb hr rfl (fun t ht hW => ⟨0, rfl, by first | (simp [mFit0, mFit1, mIs, bI, *]; done) | (subst_vars; simp [mFit0, mFit1, mIs, bI, *]; done) | (subst_vars; simp_all [mFit0, mFit1, mIs, bI]; done), ht⟩) (fun q h => by cases h) dM_fits_143
      · refine lv_iload_n hx hb dM_fits_119 rfl (lv_at hl 4 rfl) ?_
        refine nr_if_lt (tgt := 138) hx hb (a1 := bf) (by omega) dM_fits_120 (by decide) (fun c9 => absurd c9 (by omega)) (fun _ => ?_)
        refine lv_aload_n hx hb dM_fits_123 rfl (lv_at hl 1 rfl) ?_
        refine va_get (D := (dC, dI)) (ci := 1) (v := .ref (r 3)) (C := "EventPatternsModel") (T := TM) (N := 16) hx hb hbw inM hown hK hP 0 rfl rfl 4 (by decide) (hbw _ kf_M_16) (fun _ h9 => h9) rfl dM_fits_124 ?_
        refine lv_iload_n hx hb dM_fits_127 rfl (lv_at hl 2 rfl) ?_
        refine nr_iald hx hb hK hP 3 0 rfl rfl (j := e1) (by omega) (by decide) dM_fits_128 ?_
        refine lv_aload_n hx hb dM_fits_129 rfl (lv_at hl 1 rfl) ?_
        refine va_get (D := (dC, dI)) (ci := 1) (v := .ref (r 3)) (C := "EventPatternsModel") (T := TM) (N := 16) hx hb hbw inM hown hK hP 0 rfl rfl 4 (by decide) (hbw _ kf_M_16) (fun _ h9 => h9) rfl dM_fits_130 ?_
        refine lv_iload_n hx hb dM_fits_133 rfl (lv_at hl 4 rfl) ?_
        refine nr_iald hx hb hK hP 3 0 rfl rfl (j := bf) (by omega) (by decide) dM_fits_134 ?_
        refine lv_icmp_ge (tgt := 142) hx hb dM_fits_135 (by decide) (fun c_135 => ?_) (fun c_135 => ?_)
        · refine lv_iconst (v := 0) hx hb dM_fits_142 (by decide) ?_
          exact W.zret (v := 0) hx hb hr rfl (fun t ht hW => ⟨0, rfl, by first | (simp [mFit0, mFit1, mIs, bI, *]; done) | (subst_vars; simp [mFit0, mFit1, mIs, bI, *]; done) | (subst_vars; simp_all [mFit0, mFit1, mIs, bI]; done), ht⟩) (fun q h => by cases h) dM_fits_143
        · refine lv_iconst (v := 1) hx hb dM_fits_138 (by decide) ?_
          refine lv_goto (tgt := 143) hx hb dM_fits_139 (by decide) ?_
          exact W.zret (v := 1) hx hb hr rfl (fun t ht hW => ⟨1, rfl, by first | (simp [mFit0, mFit1, mIs, bI, *]; done) | (subst_vars; simp [mFit0, mFit1, mIs, bI, *]; done) | (subst_vars; simp_all [mFit0, mFit1, mIs, bI]; done), ht⟩) (fun q h => by cases h) dM_fits_143
    by_cases t3 : (b 4) (st) = 3
    · refine lv_tableIn (off := 91) (tgt := 144) hx hb dM_fits_53 (by rw [t3]; decide) (by rw [t3]; decide) (by rw [t3]; decide) (by decide) ?_
      refine lv_iload hx hb dM_fits_144 (lv_at hl 0 rfl) ?_
      refine nr_if_eq (tgt := 169) hx hb (a1 := 0) (by omega) dM_fits_146 (by decide) (fun c_146 => ?_) (fun c_146 => ?_)
      · refine lv_iconst (v := 0) hx hb dM_fits_169 (by decide) ?_
        exact W.zret (v := 0) hx hb hr rfl (fun t ht hW => ⟨0, rfl, by first | (simp [mFit0, mFit1, mIs, bI, *]; done) | (subst_vars; simp [mFit0, mFit1, mIs, bI, *]; done) | (subst_vars; simp_all [mFit0, mFit1, mIs, bI]; done), ht⟩) (fun q h => by cases h) dM_fits_170
      · refine lv_aload_n hx hb dM_fits_149 rfl (lv_at hl 1 rfl) ?_
        refine va_get (D := (dC, dI)) (ci := 1) (v := .ref (r 3)) (C := "EventPatternsModel") (T := TM) (N := 16) hx hb hbw inM hown hK hP 0 rfl rfl 4 (by decide) (hbw _ kf_M_16) (fun _ h9 => h9) rfl dM_fits_150 ?_
        refine lv_iload_n hx hb dM_fits_153 rfl (lv_at hl 2 rfl) ?_
        refine nr_iald hx hb hK hP 3 0 rfl rfl (j := e1) (by omega) (by decide) dM_fits_154 ?_
        refine lv_aload_n hx hb dM_fits_155 rfl (lv_at hl 1 rfl) ?_
        refine va_get (D := (dC, dI)) (ci := 1) (v := .ref (r 3)) (C := "EventPatternsModel") (T := TM) (N := 16) hx hb hbw inM hown hK hP 0 rfl rfl 4 (by decide) (hbw _ kf_M_16) (fun _ h9 => h9) rfl dM_fits_156 ?_
        refine lv_iload hx hb dM_fits_159 (lv_at hl 5 rfl) ?_
        refine nr_iald hx hb hK hP 3 0 rfl rfl (j := fi) (by omega) (by decide) dM_fits_161 ?_
        refine lv_icmp_ne (tgt := 169) hx hb dM_fits_162 (by decide) (fun c_162 => ?_) (fun c_162 => ?_)
        · refine lv_iconst (v := 0) hx hb dM_fits_169 (by decide) ?_
          exact W.zret (v := 0) hx hb hr rfl (fun t ht hW => ⟨0, rfl, by first | (simp [mFit0, mFit1, mIs, bI, *]; done) | (subst_vars; simp [mFit0, mFit1, mIs, bI, *]; done) | (subst_vars; simp_all [mFit0, mFit1, mIs, bI]; done), ht⟩) (fun q h => by cases h) dM_fits_170
        · refine lv_iconst (v := 1) hx hb dM_fits_165 (by decide) ?_
          refine lv_goto (tgt := 170) hx hb dM_fits_166 (by decide) ?_
          exact W.zret (v := 1) hx hb hr rfl (fun t ht hW => ⟨1, rfl, by first | (simp [mFit0, mFit1, mIs, bI, *]; done) | (subst_vars; simp [mFit0, mFit1, mIs, bI, *]; done) | (subst_vars; simp_all [mFit0, mFit1, mIs, bI]; done), ht⟩) (fun q h => by cases h) dM_fits_170
    by_cases t4 : (b 4) (st) = 4
    · refine lv_tableIn (off := 118) (tgt := 171) hx hb dM_fits_53 (by rw [t4]; decide) (by rw [t4]; decide) (by rw [t4]; decide) (by decide) ?_
      refine lv_iload hx hb dM_fits_171 (lv_at hl 0 rfl) ?_
      refine nr_if_eq (tgt := 195) hx hb (a1 := 0) (by omega) dM_fits_173 (by decide) (fun c_173 => ?_) (fun c_173 => ?_)
      · refine lv_iconst (v := 0) hx hb dM_fits_195 (by decide) ?_
        exact W.zret (v := 0) hx hb hr rfl (fun t ht hW => ⟨0, rfl, by first | (simp [mFit0, mFit1, mIs, bI, *]; done) | (subst_vars; simp [mFit0, mFit1, mIs, bI, *]; done) | (subst_vars; simp_all [mFit0, mFit1, mIs, bI]; done), ht⟩) (fun q h => by cases h) dM_fits_196
      · refine lv_aload_n hx hb dM_fits_176 rfl (lv_at hl 1 rfl) ?_
        refine va_get (D := (dC, dI)) (ci := 1) (v := .ref (r 3)) (C := "EventPatternsModel") (T := TM) (N := 16) hx hb hbw inM hown hK hP 0 rfl rfl 4 (by decide) (hbw _ kf_M_16) (fun _ h9 => h9) rfl dM_fits_177 ?_
        refine lv_iload_n hx hb dM_fits_180 rfl (lv_at hl 2 rfl) ?_
        refine nr_iald hx hb hK hP 3 0 rfl rfl (j := e1) (by omega) (by decide) dM_fits_181 ?_
        refine lv_aload_n hx hb dM_fits_182 rfl (lv_at hl 1 rfl) ?_
        refine va_get (D := (dC, dI)) (ci := 1) (v := .ref (r 6)) (C := "EventPatternsModel") (T := TM) (N := 16) hx hb hbw inM hown hK hP 0 rfl rfl 10 (by decide) (hbw _ kf_M_25) (fun _ h9 => h9) rfl dM_fits_183 ?_
        refine lv_iload_n hx hb dM_fits_186 rfl (lv_at hl 3 rfl) ?_
        refine nr_iald hx hb hK hP 6 0 rfl rfl (j := st) (by omega) (by decide) dM_fits_187 ?_
        refine lv_icmp_lt (tgt := 195) hx hb dM_fits_188 (by decide) (fun c_188 => ?_) (fun c_188 => ?_)
        · refine lv_iconst (v := 0) hx hb dM_fits_195 (by decide) ?_
          exact W.zret (v := 0) hx hb hr rfl (fun t ht hW => ⟨0, rfl, by first | (simp [mFit0, mFit1, mIs, bI, *]; done) | (subst_vars; simp [mFit0, mFit1, mIs, bI, *]; done) | (subst_vars; simp_all [mFit0, mFit1, mIs, bI]; done), ht⟩) (fun q h => by cases h) dM_fits_196
        · refine lv_iconst (v := 1) hx hb dM_fits_191 (by decide) ?_
          refine lv_goto (tgt := 196) hx hb dM_fits_192 (by decide) ?_
          exact W.zret (v := 1) hx hb hr rfl (fun t ht hW => ⟨1, rfl, by first | (simp [mFit0, mFit1, mIs, bI, *]; done) | (subst_vars; simp [mFit0, mFit1, mIs, bI, *]; done) | (subst_vars; simp_all [mFit0, mFit1, mIs, bI]; done), ht⟩) (fun q h => by cases h) dM_fits_196
    have u1 := lv_neT t1 (show (1 : Int32).toInt = 1 from rfl)
    have u2 := lv_neT t2 (show (2 : Int32).toInt = 2 from rfl)
    have u3 := lv_neT t3 (show (3 : Int32).toInt = 3 from rfl)
    have u4 := lv_neT t4 (show (4 : Int32).toInt = 4 from rfl)
    refine lv_tableOut (tgt := 197) hx hb dM_fits_53 (by omega) (by decide) ?_
    refine lv_iload hx hb dM_fits_197 (lv_at hl 0 rfl) ?_
    exact W.zret (v := 0) hx hb hr rfl (fun t ht hW => ⟨0, rfl, by first | (simp [mFit0, mFit1, mIs, bI, *]; done) | (subst_vars; simp [mFit0, mFit1, mIs, bI, *]; done) | (subst_vars; simp_all [mFit0, mFit1, mIs, bI]; done), ht⟩) (fun q h => by cases h) dM_fits_199
  · refine lv_aload_n hx hb dM_fits_19 rfl (lv_at hl 0 rfl) ?_
    refine va_get (D := (dC, dI)) (ci := 1) (v := .ref (r 1)) (C := "EventPatternsModel") (T := TM) (N := 16) hx hb hbw inM hown hK hP 0 rfl rfl 2 (by decide) (hbw _ kf_M_7) (fun _ h9 => h9) rfl dM_fits_20 ?_
    refine lv_iload_n hx hb dM_fits_23 rfl (lv_at hl 1 rfl) ?_
    refine nr_iald hx hb hK hP 1 0 rfl rfl (j := e1) (by omega) (by decide) dM_fits_24 ?_
    refine lv_aload_n hx hb dM_fits_25 rfl (lv_at hl 0 rfl) ?_
    refine va_get (D := (dC, dI)) (ci := 1) (v := .ref (r 1)) (C := "EventPatternsModel") (T := TM) (N := 16) hx hb hbw inM hown hK hP 0 rfl rfl 2 (by decide) (hbw _ kf_M_7) (fun _ h9 => h9) rfl dM_fits_26 ?_
    refine lv_iload hx hb dM_fits_29 (lv_at hl 4 rfl) ?_
    refine nr_iald hx hb hK hP 1 0 rfl rfl (j := fi) (by omega) (by decide) dM_fits_31 ?_
    refine lv_isub hx hb dM_fits_32 ?_
    refine lv_aload_n hx hb dM_fits_33 rfl (lv_at hl 0 rfl) ?_
    refine va_get (D := (dC, dI)) (ci := 1) (v := .int (g 3)) (C := "EventPatternsModel") (T := TM) (N := 16) hx hb hbw inM hown hK hP 0 rfl rfl 6 (by decide) (hbw _ kf_M_60) (fun _ h9 => h9) rfl dM_fits_34 ?_
    refine lv_icmp_gt (tgt := 44) hx hb dM_fits_37 (by decide) (fun c_37 => ?_) (fun c_37 => ?_)
    · refine lv_iconst (v := 0) hx hb dM_fits_44 (by decide) ?_
      refine lv_istore (lv' := [(5, .int (0)), (0, .ref (r 0)), (1, .int (nI (e1))), (2, .int (nI (st))), (3, .int (nI (bf))), (4, .int (nI (fi)))]) hx hb dM_fits_45 hl (by decide) rfl (fun ls hl => ?_)
      refine lv_aload_n hx hb dM_fits_47 rfl (lv_at hl 1 rfl) ?_
      refine va_get (D := (dC, dI)) (ci := 1) (v := .ref (r 5)) (C := "EventPatternsModel") (T := TM) (N := 16) hx hb hbw inM hown hK hP 0 rfl rfl 9 (by decide) (hbw _ kf_M_22) (fun _ h9 => h9) rfl dM_fits_48 ?_
      refine lv_iload_n hx hb dM_fits_51 rfl (lv_at hl 3 rfl) ?_
      refine nr_iald hx hb hK hP 5 0 rfl rfl (j := st) (by omega) (by decide) dM_fits_52 ?_
      by_cases t1 : (b 4) (st) = 1
      · refine lv_tableIn (off := 31) (tgt := 84) hx hb dM_fits_53 (by rw [t1]; decide) (by rw [t1]; decide) (by rw [t1]; decide) (by decide) ?_
        refine lv_iload hx hb dM_fits_84 (lv_at hl 0 rfl) ?_
        refine nr_if_eq (tgt := 112) hx hb (a1 := 0) (by omega) dM_fits_86 (by decide) (fun c_86 => ?_) (fun c_86 => ?_)
        · refine lv_iconst (v := 0) hx hb dM_fits_112 (by decide) ?_
          exact W.zret (v := 0) hx hb hr rfl (fun t ht hW => ⟨0, rfl, by first | (simp [mFit0, mFit1, mIs, bI, *]; done) | (subst_vars; simp [mFit0, mFit1, mIs, bI, *]; done) | (subst_vars; simp_all [mFit0, mFit1, mIs, bI]; done), ht⟩) (fun q h => by cases h) dM_fits_113
        · refine lv_iload_n hx hb dM_fits_89 rfl (lv_at hl 4 rfl) ?_
          refine nr_if_lt (tgt := 108) hx hb (a1 := bf) (by omega) dM_fits_90 (by decide) (fun c9 => absurd c9 (by omega)) (fun _ => ?_)
          refine lv_aload_n hx hb dM_fits_93 rfl (lv_at hl 1 rfl) ?_
          refine va_get (D := (dC, dI)) (ci := 1) (v := .ref (r 3)) (C := "EventPatternsModel") (T := TM) (N := 16) hx hb hbw inM hown hK hP 0 rfl rfl 4 (by decide) (hbw _ kf_M_16) (fun _ h9 => h9) rfl dM_fits_94 ?_
          refine lv_iload_n hx hb dM_fits_97 rfl (lv_at hl 2 rfl) ?_
          refine nr_iald hx hb hK hP 3 0 rfl rfl (j := e1) (by omega) (by decide) dM_fits_98 ?_
          refine lv_aload_n hx hb dM_fits_99 rfl (lv_at hl 1 rfl) ?_
          refine va_get (D := (dC, dI)) (ci := 1) (v := .ref (r 3)) (C := "EventPatternsModel") (T := TM) (N := 16) hx hb hbw inM hown hK hP 0 rfl rfl 4 (by decide) (hbw _ kf_M_16) (fun _ h9 => h9) rfl dM_fits_100 ?_
          refine lv_iload_n hx hb dM_fits_103 rfl (lv_at hl 4 rfl) ?_
          refine nr_iald hx hb hK hP 3 0 rfl rfl (j := bf) (by omega) (by decide) dM_fits_104 ?_
          refine lv_icmp_le (tgt := 112) hx hb dM_fits_105 (by decide) (fun c_105 => ?_) (fun c_105 => ?_)
          · refine lv_iconst (v := 0) hx hb dM_fits_112 (by decide) ?_
            exact W.zret (v := 0) hx hb hr rfl (fun t ht hW => ⟨0, rfl, by first | (simp [mFit0, mFit1, mIs, bI, *]; done) | (subst_vars; simp [mFit0, mFit1, mIs, bI, *]; done) | (subst_vars; simp_all [mFit0, mFit1, mIs, bI]; done), ht⟩) (fun q h => by cases h) dM_fits_113
          · refine lv_iconst (v := 1) hx hb dM_fits_108 (by decide) ?_
            refine lv_goto (tgt := 113) hx hb dM_fits_109 (by decide) ?_
            exact W.zret (v := 1) hx hb hr rfl (fun t ht hW => ⟨1, rfl, by first | (simp [mFit0, mFit1, mIs, bI, *]; done) | (subst_vars; simp [mFit0, mFit1, mIs, bI, *]; done) | (subst_vars; simp_all [mFit0, mFit1, mIs, bI]; done), ht⟩) (fun q h => by cases h) dM_fits_113
      by_cases t2 : (b 4) (st) = 2
      · refine lv_tableIn (off := 61) (tgt := 114) hx hb dM_fits_53 (by rw [t2]; decide) (by rw [t2]; decide) (by rw [t2]; decide) (by decide) ?_
        refine lv_iload hx hb dM_fits_114 (lv_at hl 0 rfl) ?_
        refine nr_if_eq (tgt := 142) hx hb (a1 := 0) (by omega) dM_fits_116 (by decide) (fun c_116 => ?_) (fun c_116 => ?_)
        · refine lv_iconst (v := 0) hx hb dM_fits_142 (by decide) ?_
          exact W.zret (v := 0) hx hb hr rfl (fun t ht hW => ⟨0, rfl, by first | (simp [mFit0, mFit1, mIs, bI, *]; done) | (subst_vars; simp [mFit0, mFit1, mIs, bI, *]; done) | (subst_vars; simp_all [mFit0, mFit1, mIs, bI]; done), ht⟩) (fun q h => by cases h) dM_fits_143
        · refine lv_iload_n hx hb dM_fits_119 rfl (lv_at hl 4 rfl) ?_
          refine nr_if_lt (tgt := 138) hx hb (a1 := bf) (by omega) dM_fits_120 (by decide) (fun c9 => absurd c9 (by omega)) (fun _ => ?_)
          refine lv_aload_n hx hb dM_fits_123 rfl (lv_at hl 1 rfl) ?_
          refine va_get (D := (dC, dI)) (ci := 1) (v := .ref (r 3)) (C := "EventPatternsModel") (T := TM) (N := 16) hx hb hbw inM hown hK hP 0 rfl rfl 4 (by decide) (hbw _ kf_M_16) (fun _ h9 => h9) rfl dM_fits_124 ?_
          refine lv_iload_n hx hb dM_fits_127 rfl (lv_at hl 2 rfl) ?_
          refine nr_iald hx hb hK hP 3 0 rfl rfl (j := e1) (by omega) (by decide) dM_fits_128 ?_
          refine lv_aload_n hx hb dM_fits_129 rfl (lv_at hl 1 rfl) ?_
          refine va_get (D := (dC, dI)) (ci := 1) (v := .ref (r 3)) (C := "EventPatternsModel") (T := TM) (N := 16) hx hb hbw inM hown hK hP 0 rfl rfl 4 (by decide) (hbw _ kf_M_16) (fun _ h9 => h9) rfl dM_fits_130 ?_
          refine lv_iload_n hx hb dM_fits_133 rfl (lv_at hl 4 rfl) ?_
          refine nr_iald hx hb hK hP 3 0 rfl rfl (j := bf) (by omega) (by decide) dM_fits_134 ?_
          refine lv_icmp_ge (tgt := 142) hx hb dM_fits_135 (by decide) (fun c_135 => ?_) (fun c_135 => ?_)
          · refine lv_iconst (v := 0) hx hb dM_fits_142 (by decide) ?_
            exact W.zret (v := 0) hx hb hr rfl (fun t ht hW => ⟨0, rfl, by first | (simp [mFit0, mFit1, mIs, bI, *]; done) | (subst_vars; simp [mFit0, mFit1, mIs, bI, *]; done) | (subst_vars; simp_all [mFit0, mFit1, mIs, bI]; done), ht⟩) (fun q h => by cases h) dM_fits_143
          · refine lv_iconst (v := 1) hx hb dM_fits_138 (by decide) ?_
            refine lv_goto (tgt := 143) hx hb dM_fits_139 (by decide) ?_
            exact W.zret (v := 1) hx hb hr rfl (fun t ht hW => ⟨1, rfl, by first | (simp [mFit0, mFit1, mIs, bI, *]; done) | (subst_vars; simp [mFit0, mFit1, mIs, bI, *]; done) | (subst_vars; simp_all [mFit0, mFit1, mIs, bI]; done), ht⟩) (fun q h => by cases h) dM_fits_143
      by_cases t3 : (b 4) (st) = 3
      · refine lv_tableIn (off := 91) (tgt := 144) hx hb dM_fits_53 (by rw [t3]; decide) (by rw [t3]; decide) (by rw [t3]; decide) (by decide) ?_
        refine lv_iload hx hb dM_fits_144 (lv_at hl 0 rfl) ?_
        refine nr_if_eq (tgt := 169) hx hb (a1 := 0) (by omega) dM_fits_146 (by decide) (fun c_146 => ?_) (fun c_146 => ?_)
        · refine lv_iconst (v := 0) hx hb dM_fits_169 (by decide) ?_
          exact W.zret (v := 0) hx hb hr rfl (fun t ht hW => ⟨0, rfl, by first | (simp [mFit0, mFit1, mIs, bI, *]; done) | (subst_vars; simp [mFit0, mFit1, mIs, bI, *]; done) | (subst_vars; simp_all [mFit0, mFit1, mIs, bI]; done), ht⟩) (fun q h => by cases h) dM_fits_170
        · refine lv_aload_n hx hb dM_fits_149 rfl (lv_at hl 1 rfl) ?_
          refine va_get (D := (dC, dI)) (ci := 1) (v := .ref (r 3)) (C := "EventPatternsModel") (T := TM) (N := 16) hx hb hbw inM hown hK hP 0 rfl rfl 4 (by decide) (hbw _ kf_M_16) (fun _ h9 => h9) rfl dM_fits_150 ?_
          refine lv_iload_n hx hb dM_fits_153 rfl (lv_at hl 2 rfl) ?_
          refine nr_iald hx hb hK hP 3 0 rfl rfl (j := e1) (by omega) (by decide) dM_fits_154 ?_
          refine lv_aload_n hx hb dM_fits_155 rfl (lv_at hl 1 rfl) ?_
          refine va_get (D := (dC, dI)) (ci := 1) (v := .ref (r 3)) (C := "EventPatternsModel") (T := TM) (N := 16) hx hb hbw inM hown hK hP 0 rfl rfl 4 (by decide) (hbw _ kf_M_16) (fun _ h9 => h9) rfl dM_fits_156 ?_
          refine lv_iload hx hb dM_fits_159 (lv_at hl 5 rfl) ?_
          refine nr_iald hx hb hK hP 3 0 rfl rfl (j := fi) (by omega) (by decide) dM_fits_161 ?_
          refine lv_icmp_ne (tgt := 169) hx hb dM_fits_162 (by decide) (fun c_162 => ?_) (fun c_162 => ?_)
          · refine lv_iconst (v := 0) hx hb dM_fits_169 (by decide) ?_
            exact W.zret (v := 0) hx hb hr rfl (fun t ht hW => ⟨0, rfl, by first | (simp [mFit0, mFit1, mIs, bI, *]; done) | (subst_vars; simp [mFit0, mFit1, mIs, bI, *]; done) | (subst_vars; simp_all [mFit0, mFit1, mIs, bI]; done), ht⟩) (fun q h => by cases h) dM_fits_170
          · refine lv_iconst (v := 1) hx hb dM_fits_165 (by decide) ?_
            refine lv_goto (tgt := 170) hx hb dM_fits_166 (by decide) ?_
            exact W.zret (v := 1) hx hb hr rfl (fun t ht hW => ⟨1, rfl, by first | (simp [mFit0, mFit1, mIs, bI, *]; done) | (subst_vars; simp [mFit0, mFit1, mIs, bI, *]; done) | (subst_vars; simp_all [mFit0, mFit1, mIs, bI]; done), ht⟩) (fun q h => by cases h) dM_fits_170
      by_cases t4 : (b 4) (st) = 4
      · refine lv_tableIn (off := 118) (tgt := 171) hx hb dM_fits_53 (by rw [t4]; decide) (by rw [t4]; decide) (by rw [t4]; decide) (by decide) ?_
        refine lv_iload hx hb dM_fits_171 (lv_at hl 0 rfl) ?_
        refine nr_if_eq (tgt := 195) hx hb (a1 := 0) (by omega) dM_fits_173 (by decide) (fun c_173 => ?_) (fun c_173 => ?_)
        · refine lv_iconst (v := 0) hx hb dM_fits_195 (by decide) ?_
          exact W.zret (v := 0) hx hb hr rfl (fun t ht hW => ⟨0, rfl, by first | (simp [mFit0, mFit1, mIs, bI, *]; done) | (subst_vars; simp [mFit0, mFit1, mIs, bI, *]; done) | (subst_vars; simp_all [mFit0, mFit1, mIs, bI]; done), ht⟩) (fun q h => by cases h) dM_fits_196
        · refine lv_aload_n hx hb dM_fits_176 rfl (lv_at hl 1 rfl) ?_
          refine va_get (D := (dC, dI)) (ci := 1) (v := .ref (r 3)) (C := "EventPatternsModel") (T := TM) (N := 16) hx hb hbw inM hown hK hP 0 rfl rfl 4 (by decide) (hbw _ kf_M_16) (fun _ h9 => h9) rfl dM_fits_177 ?_
          refine lv_iload_n hx hb dM_fits_180 rfl (lv_at hl 2 rfl) ?_
          refine nr_iald hx hb hK hP 3 0 rfl rfl (j := e1) (by omega) (by decide) dM_fits_181 ?_
          refine lv_aload_n hx hb dM_fits_182 rfl (lv_at hl 1 rfl) ?_
          refine va_get (D := (dC, dI)) (ci := 1) (v := .ref (r 6)) (C := "EventPatternsModel") (T := TM) (N := 16) hx hb hbw inM hown hK hP 0 rfl rfl 10 (by decide) (hbw _ kf_M_25) (fun _ h9 => h9) rfl dM_fits_183 ?_
          refine lv_iload_n hx hb dM_fits_186 rfl (lv_at hl 3 rfl) ?_
          refine nr_iald hx hb hK hP 6 0 rfl rfl (j := st) (by omega) (by decide) dM_fits_187 ?_
          refine lv_icmp_lt (tgt := 195) hx hb dM_fits_188 (by decide) (fun c_188 => ?_) (fun c_188 => ?_)
          · refine lv_iconst (v := 0) hx hb dM_fits_195 (by decide) ?_
            exact W.zret (v := 0) hx hb hr rfl (fun t ht hW => ⟨0, rfl, by first | (simp [mFit0, mFit1, mIs, bI, *]; done) | (subst_vars; simp [mFit0, mFit1, mIs, bI, *]; done) | (subst_vars; simp_all [mFit0, mFit1, mIs, bI]; done), ht⟩) (fun q h => by cases h) dM_fits_196
          · refine lv_iconst (v := 1) hx hb dM_fits_191 (by decide) ?_
            refine lv_goto (tgt := 196) hx hb dM_fits_192 (by decide) ?_
            exact W.zret (v := 1) hx hb hr rfl (fun t ht hW => ⟨1, rfl, by first | (simp [mFit0, mFit1, mIs, bI, *]; done) | (subst_vars; simp [mFit0, mFit1, mIs, bI, *]; done) | (subst_vars; simp_all [mFit0, mFit1, mIs, bI]; done), ht⟩) (fun q h => by cases h) dM_fits_196
      have u1 := lv_neT t1 (show (1 : Int32).toInt = 1 from rfl)
      have u2 := lv_neT t2 (show (2 : Int32).toInt = 2 from rfl)
      have u3 := lv_neT t3 (show (3 : Int32).toInt = 3 from rfl)
      have u4 := lv_neT t4 (show (4 : Int32).toInt = 4 from rfl)
      refine lv_tableOut (tgt := 197) hx hb dM_fits_53 (by omega) (by decide) ?_
      refine lv_iload hx hb dM_fits_197 (lv_at hl 0 rfl) ?_
      exact W.zret (v := 0) hx hb hr rfl (fun t ht hW => ⟨0, rfl, by first | (simp [mFit0, mFit1, mIs, bI, *]; done) | (subst_vars; simp [mFit0, mFit1, mIs, bI, *]; done) | (subst_vars; simp_all [mFit0, mFit1, mIs, bI]; done), ht⟩) (fun q h => by cases h) dM_fits_199
    · refine lv_iconst (v := 1) hx hb dM_fits_40 (by decide) ?_
      refine lv_goto (tgt := 45) hx hb dM_fits_41 (by decide) ?_
      refine lv_istore (lv' := [(5, .int (1)), (0, .ref (r 0)), (1, .int (nI (e1))), (2, .int (nI (st))), (3, .int (nI (bf))), (4, .int (nI (fi)))]) hx hb dM_fits_45 hl (by decide) rfl (fun ls hl => ?_)
      refine lv_aload_n hx hb dM_fits_47 rfl (lv_at hl 1 rfl) ?_
      refine va_get (D := (dC, dI)) (ci := 1) (v := .ref (r 5)) (C := "EventPatternsModel") (T := TM) (N := 16) hx hb hbw inM hown hK hP 0 rfl rfl 9 (by decide) (hbw _ kf_M_22) (fun _ h9 => h9) rfl dM_fits_48 ?_
      refine lv_iload_n hx hb dM_fits_51 rfl (lv_at hl 3 rfl) ?_
      refine nr_iald hx hb hK hP 5 0 rfl rfl (j := st) (by omega) (by decide) dM_fits_52 ?_
      by_cases t1 : (b 4) (st) = 1
      · refine lv_tableIn (off := 31) (tgt := 84) hx hb dM_fits_53 (by rw [t1]; decide) (by rw [t1]; decide) (by rw [t1]; decide) (by decide) ?_
        refine lv_iload hx hb dM_fits_84 (lv_at hl 0 rfl) ?_
        refine nr_if_eq (tgt := 112) hx hb (a1 := 1) (by omega) dM_fits_86 (by decide) (fun c_86 => ?_) (fun c_86 => ?_)
        · refine lv_iconst (v := 0) hx hb dM_fits_112 (by decide) ?_
          exact W.zret (v := 0) hx hb hr rfl (fun t ht hW => ⟨0, rfl, by first | (simp [mFit0, mFit1, mIs, bI, *]; done) | (subst_vars; simp [mFit0, mFit1, mIs, bI, *]; done) | (subst_vars; simp_all [mFit0, mFit1, mIs, bI]; done), ht⟩) (fun q h => by cases h) dM_fits_113
        · refine lv_iload_n hx hb dM_fits_89 rfl (lv_at hl 4 rfl) ?_
          refine nr_if_lt (tgt := 108) hx hb (a1 := bf) (by omega) dM_fits_90 (by decide) (fun c9 => absurd c9 (by omega)) (fun _ => ?_)
          refine lv_aload_n hx hb dM_fits_93 rfl (lv_at hl 1 rfl) ?_
          refine va_get (D := (dC, dI)) (ci := 1) (v := .ref (r 3)) (C := "EventPatternsModel") (T := TM) (N := 16) hx hb hbw inM hown hK hP 0 rfl rfl 4 (by decide) (hbw _ kf_M_16) (fun _ h9 => h9) rfl dM_fits_94 ?_
          refine lv_iload_n hx hb dM_fits_97 rfl (lv_at hl 2 rfl) ?_
          refine nr_iald hx hb hK hP 3 0 rfl rfl (j := e1) (by omega) (by decide) dM_fits_98 ?_
          refine lv_aload_n hx hb dM_fits_99 rfl (lv_at hl 1 rfl) ?_
          refine va_get (D := (dC, dI)) (ci := 1) (v := .ref (r 3)) (C := "EventPatternsModel") (T := TM) (N := 16) hx hb hbw inM hown hK hP 0 rfl rfl 4 (by decide) (hbw _ kf_M_16) (fun _ h9 => h9) rfl dM_fits_100 ?_
          refine lv_iload_n hx hb dM_fits_103 rfl (lv_at hl 4 rfl) ?_
          refine nr_iald hx hb hK hP 3 0 rfl rfl (j := bf) (by omega) (by decide) dM_fits_104 ?_
          refine lv_icmp_le (tgt := 112) hx hb dM_fits_105 (by decide) (fun c_105 => ?_) (fun c_105 => ?_)
          · refine lv_iconst (v := 0) hx hb dM_fits_112 (by decide) ?_
            exact W.zret (v := 0) hx hb hr rfl (fun t ht hW => ⟨0, rfl, by first | (simp [mFit0, mFit1, mIs, bI, *]; done) | (subst_vars; simp [mFit0, mFit1, mIs, bI, *]; done) | (subst_vars; simp_all [mFit0, mFit1, mIs, bI]; done), ht⟩) (fun q h => by cases h) dM_fits_113
          · refine lv_iconst (v := 1) hx hb dM_fits_108 (by decide) ?_
            refine lv_goto (tgt := 113) hx hb dM_fits_109 (by decide) ?_
            exact W.zret (v := 1) hx hb hr rfl (fun t ht hW => ⟨1, rfl, by first | (simp [mFit0, mFit1, mIs, bI, *]; done) | (subst_vars; simp [mFit0, mFit1, mIs, bI, *]; done) | (subst_vars; simp_all [mFit0, mFit1, mIs, bI]; done), ht⟩) (fun q h => by cases h) dM_fits_113
      by_cases t2 : (b 4) (st) = 2
      · refine lv_tableIn (off := 61) (tgt := 114) hx hb dM_fits_53 (by rw [t2]; decide) (by rw [t2]; decide) (by rw [t2]; decide) (by decide) ?_
        refine lv_iload hx hb dM_fits_114 (lv_at hl 0 rfl) ?_
        refine nr_if_eq (tgt := 142) hx hb (a1 := 1) (by omega) dM_fits_116 (by decide) (fun c_116 => ?_) (fun c_116 => ?_)
        · refine lv_iconst (v := 0) hx hb dM_fits_142 (by decide) ?_
          exact W.zret (v := 0) hx hb hr rfl (fun t ht hW => ⟨0, rfl, by first | (simp [mFit0, mFit1, mIs, bI, *]; done) | (subst_vars; simp [mFit0, mFit1, mIs, bI, *]; done) | (subst_vars; simp_all [mFit0, mFit1, mIs, bI]; done), ht⟩) (fun q h => by cases h) dM_fits_143
        · refine lv_iload_n hx hb dM_fits_119 rfl (lv_at hl 4 rfl) ?_
          refine nr_if_lt (tgt := 138) hx hb (a1 := bf) (by omega) dM_fits_120 (by decide) (fun c9 => absurd c9 (by omega)) (fun _ => ?_)
          refine lv_aload_n hx hb dM_fits_123 rfl (lv_at hl 1 rfl) ?_
          refine va_get (D := (dC, dI)) (ci := 1) (v := .ref (r 3)) (C := "EventPatternsModel") (T := TM) (N := 16) hx hb hbw inM hown hK hP 0 rfl rfl 4 (by decide) (hbw _ kf_M_16) (fun _ h9 => h9) rfl dM_fits_124 ?_
          refine lv_iload_n hx hb dM_fits_127 rfl (lv_at hl 2 rfl) ?_
          refine nr_iald hx hb hK hP 3 0 rfl rfl (j := e1) (by omega) (by decide) dM_fits_128 ?_
          refine lv_aload_n hx hb dM_fits_129 rfl (lv_at hl 1 rfl) ?_
          refine va_get (D := (dC, dI)) (ci := 1) (v := .ref (r 3)) (C := "EventPatternsModel") (T := TM) (N := 16) hx hb hbw inM hown hK hP 0 rfl rfl 4 (by decide) (hbw _ kf_M_16) (fun _ h9 => h9) rfl dM_fits_130 ?_
          refine lv_iload_n hx hb dM_fits_133 rfl (lv_at hl 4 rfl) ?_
          refine nr_iald hx hb hK hP 3 0 rfl rfl (j := bf) (by omega) (by decide) dM_fits_134 ?_
          refine lv_icmp_ge (tgt := 142) hx hb dM_fits_135 (by decide) (fun c_135 => ?_) (fun c_135 => ?_)
          · refine lv_iconst (v := 0) hx hb dM_fits_142 (by decide) ?_
            exact W.zret (v := 0) hx hb hr rfl (fun t ht hW => ⟨0, rfl, by first | (simp [mFit0, mFit1, mIs, bI, *]; done) | (subst_vars; simp [mFit0, mFit1, mIs, bI, *]; done) | (subst_vars; simp_all [mFit0, mFit1, mIs, bI]; done), ht⟩) (fun q h => by cases h) dM_fits_143
          · refine lv_iconst (v := 1) hx hb dM_fits_138 (by decide) ?_
            refine lv_goto (tgt := 143) hx hb dM_fits_139 (by decide) ?_
            exact W.zret (v := 1) hx hb hr rfl (fun t ht hW => ⟨1, rfl, by first | (simp [mFit0, mFit1, mIs, bI, *]; done) | (subst_vars; simp [mFit0, mFit1, mIs, bI, *]; done) | (subst_vars; simp_all [mFit0, mFit1, mIs, bI]; done), ht⟩) (fun q h => by cases h) dM_fits_143
      by_cases t3 : (b 4) (st) = 3
      · refine lv_tableIn (off := 91) (tgt := 144) hx hb dM_fits_53 (by rw [t3]; decide) (by rw [t3]; decide) (by rw [t3]; decide) (by decide) ?_
        refine lv_iload hx hb dM_fits_144 (lv_at hl 0 rfl) ?_
        refine nr_if_eq (tgt := 169) hx hb (a1 := 1) (by omega) dM_fits_146 (by decide) (fun c_146 => ?_) (fun c_146 => ?_)
        · refine lv_iconst (v := 0) hx hb dM_fits_169 (by decide) ?_
          exact W.zret (v := 0) hx hb hr rfl (fun t ht hW => ⟨0, rfl, by first | (simp [mFit0, mFit1, mIs, bI, *]; done) | (subst_vars; simp [mFit0, mFit1, mIs, bI, *]; done) | (subst_vars; simp_all [mFit0, mFit1, mIs, bI]; done), ht⟩) (fun q h => by cases h) dM_fits_170
        · refine lv_aload_n hx hb dM_fits_149 rfl (lv_at hl 1 rfl) ?_
          refine va_get (D := (dC, dI)) (ci := 1) (v := .ref (r 3)) (C := "EventPatternsModel") (T := TM) (N := 16) hx hb hbw inM hown hK hP 0 rfl rfl 4 (by decide) (hbw _ kf_M_16) (fun _ h9 => h9) rfl dM_fits_150 ?_
          refine lv_iload_n hx hb dM_fits_153 rfl (lv_at hl 2 rfl) ?_
          refine nr_iald hx hb hK hP 3 0 rfl rfl (j := e1) (by omega) (by decide) dM_fits_154 ?_
          refine lv_aload_n hx hb dM_fits_155 rfl (lv_at hl 1 rfl) ?_
          refine va_get (D := (dC, dI)) (ci := 1) (v := .ref (r 3)) (C := "EventPatternsModel") (T := TM) (N := 16) hx hb hbw inM hown hK hP 0 rfl rfl 4 (by decide) (hbw _ kf_M_16) (fun _ h9 => h9) rfl dM_fits_156 ?_
          refine lv_iload hx hb dM_fits_159 (lv_at hl 5 rfl) ?_
          refine nr_iald hx hb hK hP 3 0 rfl rfl (j := fi) (by omega) (by decide) dM_fits_161 ?_
          refine lv_icmp_ne (tgt := 169) hx hb dM_fits_162 (by decide) (fun c_162 => ?_) (fun c_162 => ?_)
          · refine lv_iconst (v := 0) hx hb dM_fits_169 (by decide) ?_
            exact W.zret (v := 0) hx hb hr rfl (fun t ht hW => ⟨0, rfl, by first | (simp [mFit0, mFit1, mIs, bI, *]; done) | (subst_vars; simp [mFit0, mFit1, mIs, bI, *]; done) | (subst_vars; simp_all [mFit0, mFit1, mIs, bI]; done), ht⟩) (fun q h => by cases h) dM_fits_170
          · refine lv_iconst (v := 1) hx hb dM_fits_165 (by decide) ?_
            refine lv_goto (tgt := 170) hx hb dM_fits_166 (by decide) ?_
            exact W.zret (v := 1) hx hb hr rfl (fun t ht hW => ⟨1, rfl, by first | (simp [mFit0, mFit1, mIs, bI, *]; done) | (subst_vars; simp [mFit0, mFit1, mIs, bI, *]; done) | (subst_vars; simp_all [mFit0, mFit1, mIs, bI]; done), ht⟩) (fun q h => by cases h) dM_fits_170
      by_cases t4 : (b 4) (st) = 4
      · refine lv_tableIn (off := 118) (tgt := 171) hx hb dM_fits_53 (by rw [t4]; decide) (by rw [t4]; decide) (by rw [t4]; decide) (by decide) ?_
        refine lv_iload hx hb dM_fits_171 (lv_at hl 0 rfl) ?_
        refine nr_if_eq (tgt := 195) hx hb (a1 := 1) (by omega) dM_fits_173 (by decide) (fun c_173 => ?_) (fun c_173 => ?_)
        · refine lv_iconst (v := 0) hx hb dM_fits_195 (by decide) ?_
          exact W.zret (v := 0) hx hb hr rfl (fun t ht hW => ⟨0, rfl, by first | (simp [mFit0, mFit1, mIs, bI, *]; done) | (subst_vars; simp [mFit0, mFit1, mIs, bI, *]; done) | (subst_vars; simp_all [mFit0, mFit1, mIs, bI]; done), ht⟩) (fun q h => by cases h) dM_fits_196
        · refine lv_aload_n hx hb dM_fits_176 rfl (lv_at hl 1 rfl) ?_
          refine va_get (D := (dC, dI)) (ci := 1) (v := .ref (r 3)) (C := "EventPatternsModel") (T := TM) (N := 16) hx hb hbw inM hown hK hP 0 rfl rfl 4 (by decide) (hbw _ kf_M_16) (fun _ h9 => h9) rfl dM_fits_177 ?_
          refine lv_iload_n hx hb dM_fits_180 rfl (lv_at hl 2 rfl) ?_
          refine nr_iald hx hb hK hP 3 0 rfl rfl (j := e1) (by omega) (by decide) dM_fits_181 ?_
          refine lv_aload_n hx hb dM_fits_182 rfl (lv_at hl 1 rfl) ?_
          refine va_get (D := (dC, dI)) (ci := 1) (v := .ref (r 6)) (C := "EventPatternsModel") (T := TM) (N := 16) hx hb hbw inM hown hK hP 0 rfl rfl 10 (by decide) (hbw _ kf_M_25) (fun _ h9 => h9) rfl dM_fits_183 ?_
          refine lv_iload_n hx hb dM_fits_186 rfl (lv_at hl 3 rfl) ?_
          refine nr_iald hx hb hK hP 6 0 rfl rfl (j := st) (by omega) (by decide) dM_fits_187 ?_
          refine lv_icmp_lt (tgt := 195) hx hb dM_fits_188 (by decide) (fun c_188 => ?_) (fun c_188 => ?_)
          · refine lv_iconst (v := 0) hx hb dM_fits_195 (by decide) ?_
            exact W.zret (v := 0) hx hb hr rfl (fun t ht hW => ⟨0, rfl, by first | (simp [mFit0, mFit1, mIs, bI, *]; done) | (subst_vars; simp [mFit0, mFit1, mIs, bI, *]; done) | (subst_vars; simp_all [mFit0, mFit1, mIs, bI]; done), ht⟩) (fun q h => by cases h) dM_fits_196
          · refine lv_iconst (v := 1) hx hb dM_fits_191 (by decide) ?_
            refine lv_goto (tgt := 196) hx hb dM_fits_192 (by decide) ?_
            exact W.zret (v := 1) hx hb hr rfl (fun t ht hW => ⟨1, rfl, by first | (simp [mFit0, mFit1, mIs, bI, *]; done) | (subst_vars; simp [mFit0, mFit1, mIs, bI, *]; done) | (subst_vars; simp_all [mFit0, mFit1, mIs, bI]; done), ht⟩) (fun q h => by cases h) dM_fits_196
      have u1 := lv_neT t1 (show (1 : Int32).toInt = 1 from rfl)
      have u2 := lv_neT t2 (show (2 : Int32).toInt = 2 from rfl)
      have u3 := lv_neT t3 (show (3 : Int32).toInt = 3 from rfl)
      have u4 := lv_neT t4 (show (4 : Int32).toInt = 4 from rfl)
      refine lv_tableOut (tgt := 197) hx hb dM_fits_53 (by omega) (by decide) ?_
      refine lv_iload hx hb dM_fits_197 (lv_at hl 0 rfl) ?_
      exact W.zret (v := 1) hx hb hr rfl (fun t ht hW => ⟨1, rfl, by first | (simp [mFit0, mFit1, mIs, bI, *]; done) | (subst_vars; simp [mFit0, mFit1, mIs, bI, *]; done) | (subst_vars; simp_all [mFit0, mFit1, mIs, bI]; done), ht⟩) (fun q h => by cases h) dM_fits_199
set_option maxHeartbeats 4000000 in
set_option maxRecDepth 100000 in
/-- refuse(one, two, three) -/
theorem tM_refuse (l : Launch) (dC : Nat → ClassId) (dI : Nat → Nat → Nat) (r : Nat → Nat) (cI cZ cG : ClassId) (b : Nat → Nat → Int32) (g : Nat → Int32) (sz : Nat) (x y z : Bool)  : Met l yM_refuse wM_refuse ({ frames := 0, cells := 0, slots := 0, locals := 0 }) (va_Pc [.ref (r 0), .int (bI (x)), .int (bI (y)), .int (bI (z))] (fun U => U.heap.size = sz ∧ va_P (dC, dI) cls2 (mw r cI cZ b g) U.heap ∧ va_K (dC, dI) cls2 (xt cI cZ cG) U ∧ va_D (fun _ => True) (mw r cI cZ b g))) (va_Qi (fun (r0 : Int32) (u : MS) => r0 = bI (decide (0 < mTh x y z)) ∧ u = (b, va_up g 0 (nI (mTh x y z)))) (atM dC dI r cI cZ cG (va_A (mw r cI cZ b g) sz)) (va_A (mw r cI cZ b g) sz)) 0 0 (va_A (mw r cI cZ b g) sz) := by
  refine Met.ofW (cc := cM_refuse) (maxL := 4) (ret := (some .boolean)) (by decide) rfl ?_
  intro p e s m args below meth c s₁ B hml hv
  obtain ⟨rfl, hsz, hP, hK, hD0⟩ := hv
  have hx := B.exec
  have hb := B.bytes
  have hr := B.returns
  have hbw : ∀ w ∈ bw, w.before _ s = true := fun w h => atoms_spec (ws := wM_refuse) B.pre w (List.mem_cons_of_mem _ h)
  have hown : s.vm.findClass "EventPatternsModel" = some m.cls := findClass_of_methodNamed B.named
  have hlocks := B.notSynchronized
  subst hsz
  have hD := hD0.self (sz := s.heap.size)
  generalize hAe : va_A (mw r cI cZ b g) s.heap.size = A at hD ⊢
  have hA : ∀ q : Nat, s.heap.size ≤ q → A q := fun q h => by rw [← hAe]; exact Or.inr h
  have hS : va_S A s.heap s.heap [] := va_S.rf
  have hl := lv_entry ([.ref (r 0), .int (bI (x)), .int (bI (y)), .int (bI (z))]) (n := 4) (Nat.le_of_ble_eq_true rfl)
  rw [lg_entry_eq]
  generalize (lg_sl ([.ref (r 0), .int (bI (x)), .int (bI (y)), .int (bI (z))]) ++ List.replicate (4 - (lg_sl ([.ref (r 0), .int (bI (x)), .int (bI (y)), .int (bI (z))])).length) Slot.unset).toArray = ls at hl ⊢
  have hl : lv_has ls 4 [(0, .ref (r 0)), (1, .int (bI (x))), (2, .int (bI (y))), (3, .int (bI (z)))] := hl
  refine lv_aload_n hx hb dM_refuse_0 rfl (lv_at hl 0 rfl) ?_
  refine lv_iload_n hx hb dM_refuse_1 rfl (lv_at hl 1 rfl) ?_
  refine nr_ifb_eq (tgt := 9) hx hb (b := (x)) dM_refuse_2 (by decide) (fun c_2 => ?_) (fun c_2 => ?_)
  · refine lv_iload_n hx hb dM_refuse_9 rfl (lv_at hl 2 rfl) ?_
    refine nr_ifb_eq (tgt := 17) hx hb (b := (y)) dM_refuse_10 (by decide) (fun c_10 => ?_) (fun c_10 => ?_)
    · refine lv_iload_n hx hb dM_refuse_17 rfl (lv_at hl 3 rfl) ?_
      refine nr_ifb_eq (tgt := 25) hx hb (b := (z)) dM_refuse_18 (by decide) (fun c_18 => ?_) (fun c_18 => ?_)
      · refine lv_iconst (v := 0) hx hb dM_refuse_25 (by decide) ?_
        rw [show (0 : Int32) = nI (mTh x y z) from by simp [mTh, *]; try rfl]
        refine va_put (D := (dC, dI)) (ci := 1) (v := .int (nI (mTh x y z))) (ty := .int) (C := "EventPatternsModel") (T := TM) (N := 16) hx hb hbw inM tyM okM nmM hown hK hP hD hS 0 rfl rfl 0 (by decide) (hbw _ kf_M_41) (fun _ h9 => h9) rfl (by decide +kernel) rfl rfl (Nat.le_of_ble_eq_true rfl) dM_refuse_26 (fun H locs hP hD hS => ?_)
        have hP : va_P (dC, dI) cls2 (mw r cI cZ (b) (va_up (g) 0 (nI (mTh x y z)))) H := hP
        have hD : va_D A (mw r cI cZ (b) (va_up (g) 0 (nI (mTh x y z)))) := hD
        refine lv_aload_n hx hb dM_refuse_29 rfl (lv_at hl 0 rfl) ?_
        refine va_get (D := (dC, dI)) (ci := 1) (v := .int (nI (mTh x y z))) (C := "EventPatternsModel") (T := TM) (N := 16) hx hb hbw inM hown hK hP 0 rfl rfl 0 (by decide) (hbw _ kf_M_41) (fun _ h9 => h9) rfl dM_refuse_30 ?_
        have hth : mTh x y z ≤ 3 := by unfold mTh; cases x <;> cases y <;> cases z <;> decide
        refine nr_if_le (tgt := 40) hx hb (a1 := mTh x y z) (by omega) dM_refuse_33 (by decide) (fun c_33 => ?_) (fun c_33 => ?_)
        · refine lv_iconst (v := 0) hx hb dM_refuse_40 (by decide) ?_
          exact W.zret (v := 0) hx hb hr rfl (fun t ht hW => ⟨⟨0, (b, va_up g 0 (nI (mTh x y z))), rfl, ⟨by first | (rw [decide_eq_true (by omega)]; rfl) | (rw [decide_eq_false (by omega)]; rfl), rfl⟩, by rw [ht]; exact hP, va_K.moved hW.alike hK, hD⟩, hS.F ht⟩) hS.2.2 dM_refuse_41
        · refine lv_iconst (v := 1) hx hb dM_refuse_36 (by decide) ?_
          refine lv_goto (tgt := 41) hx hb dM_refuse_37 (by decide) ?_
          exact W.zret (v := 1) hx hb hr rfl (fun t ht hW => ⟨⟨1, (b, va_up g 0 (nI (mTh x y z))), rfl, ⟨by first | (rw [decide_eq_true (by omega)]; rfl) | (rw [decide_eq_false (by omega)]; rfl), rfl⟩, by rw [ht]; exact hP, va_K.moved hW.alike hK, hD⟩, hS.F ht⟩) hS.2.2 dM_refuse_41
      · refine lv_iconst (v := 3) hx hb dM_refuse_21 (by decide) ?_
        refine lv_goto (tgt := 26) hx hb dM_refuse_22 (by decide) ?_
        rw [show (3 : Int32) = nI (mTh x y z) from by simp [mTh, *]; try rfl]
        refine va_put (D := (dC, dI)) (ci := 1) (v := .int (nI (mTh x y z))) (ty := .int) (C := "EventPatternsModel") (T := TM) (N := 16) hx hb hbw inM tyM okM nmM hown hK hP hD hS 0 rfl rfl 0 (by decide) (hbw _ kf_M_41) (fun _ h9 => h9) rfl (by decide +kernel) rfl rfl (Nat.le_of_ble_eq_true rfl) dM_refuse_26 (fun H locs hP hD hS => ?_)
        have hP : va_P (dC, dI) cls2 (mw r cI cZ (b) (va_up (g) 0 (nI (mTh x y z)))) H := hP
        have hD : va_D A (mw r cI cZ (b) (va_up (g) 0 (nI (mTh x y z)))) := hD
        refine lv_aload_n hx hb dM_refuse_29 rfl (lv_at hl 0 rfl) ?_
        refine va_get (D := (dC, dI)) (ci := 1) (v := .int (nI (mTh x y z))) (C := "EventPatternsModel") (T := TM) (N := 16) hx hb hbw inM hown hK hP 0 rfl rfl 0 (by decide) (hbw _ kf_M_41) (fun _ h9 => h9) rfl dM_refuse_30 ?_
        have hth : mTh x y z ≤ 3 := by unfold mTh; cases x <;> cases y <;> cases z <;> decide
        refine nr_if_le (tgt := 40) hx hb (a1 := mTh x y z) (by omega) dM_refuse_33 (by decide) (fun c_33 => ?_) (fun c_33 => ?_)
        · refine lv_iconst (v := 0) hx hb dM_refuse_40 (by decide) ?_
          exact W.zret (v := 0) hx hb hr rfl (fun t ht hW => ⟨⟨0, (b, va_up g 0 (nI (mTh x y z))), rfl, ⟨by first | (rw [decide_eq_true (by omega)]; rfl) | (rw [decide_eq_false (by omega)]; rfl), rfl⟩, by rw [ht]; exact hP, va_K.moved hW.alike hK, hD⟩, hS.F ht⟩) hS.2.2 dM_refuse_41
        · refine lv_iconst (v := 1) hx hb dM_refuse_36 (by decide) ?_
          refine lv_goto (tgt := 41) hx hb dM_refuse_37 (by decide) ?_
          exact W.zret (v := 1) hx hb hr rfl (fun t ht hW => ⟨⟨1, (b, va_up g 0 (nI (mTh x y z))), rfl, ⟨by first | (rw [decide_eq_true (by omega)]; rfl) | (rw [decide_eq_false (by omega)]; rfl), rfl⟩, by rw [ht]; exact hP, va_K.moved hW.alike hK, hD⟩, hS.F ht⟩) hS.2.2 dM_refuse_41
    · refine lv_iconst (v := 2) hx hb dM_refuse_13 (by decide) ?_
      refine lv_goto (tgt := 26) hx hb dM_refuse_14 (by decide) ?_
      rw [show (2 : Int32) = nI (mTh x y z) from by simp [mTh, *]; try rfl]
      refine va_put (D := (dC, dI)) (ci := 1) (v := .int (nI (mTh x y z))) (ty := .int) (C := "EventPatternsModel") (T := TM) (N := 16) hx hb hbw inM tyM okM nmM hown hK hP hD hS 0 rfl rfl 0 (by decide) (hbw _ kf_M_41) (fun _ h9 => h9) rfl (by decide +kernel) rfl rfl (Nat.le_of_ble_eq_true rfl) dM_refuse_26 (fun H locs hP hD hS => ?_)
      have hP : va_P (dC, dI) cls2 (mw r cI cZ (b) (va_up (g) 0 (nI (mTh x y z)))) H := hP
      have hD : va_D A (mw r cI cZ (b) (va_up (g) 0 (nI (mTh x y z)))) := hD
      refine lv_aload_n hx hb dM_refuse_29 rfl (lv_at hl 0 rfl) ?_
      refine va_get (D := (dC, dI)) (ci := 1) (v := .int (nI (mTh x y z))) (C := "EventPatternsModel") (T := TM) (N := 16) hx hb hbw inM hown hK hP 0 rfl rfl 0 (by decide) (hbw _ kf_M_41) (fun _ h9 => h9) rfl dM_refuse_30 ?_
      have hth : mTh x y z ≤ 3 := by unfold mTh; cases x <;> cases y <;> cases z <;> decide
      refine nr_if_le (tgt := 40) hx hb (a1 := mTh x y z) (by omega) dM_refuse_33 (by decide) (fun c_33 => ?_) (fun c_33 => ?_)
      · refine lv_iconst (v := 0) hx hb dM_refuse_40 (by decide) ?_
        exact W.zret (v := 0) hx hb hr rfl (fun t ht hW => ⟨⟨0, (b, va_up g 0 (nI (mTh x y z))), rfl, ⟨by first | (rw [decide_eq_true (by omega)]; rfl) | (rw [decide_eq_false (by omega)]; rfl), rfl⟩, by rw [ht]; exact hP, va_K.moved hW.alike hK, hD⟩, hS.F ht⟩) hS.2.2 dM_refuse_41
      · refine lv_iconst (v := 1) hx hb dM_refuse_36 (by decide) ?_
        refine lv_goto (tgt := 41) hx hb dM_refuse_37 (by decide) ?_
        exact W.zret (v := 1) hx hb hr rfl (fun t ht hW => ⟨⟨1, (b, va_up g 0 (nI (mTh x y z))), rfl, ⟨by first | (rw [decide_eq_true (by omega)]; rfl) | (rw [decide_eq_false (by omega)]; rfl), rfl⟩, by rw [ht]; exact hP, va_K.moved hW.alike hK, hD⟩, hS.F ht⟩) hS.2.2 dM_refuse_41
  · refine lv_iconst (v := 1) hx hb dM_refuse_5 (by decide) ?_
    refine lv_goto (tgt := 26) hx hb dM_refuse_6 (by decide) ?_
    rw [show (1 : Int32) = nI (mTh x y z) from by simp [mTh, *]; try rfl]
    refine va_put (D := (dC, dI)) (ci := 1) (v := .int (nI (mTh x y z))) (ty := .int) (C := "EventPatternsModel") (T := TM) (N := 16) hx hb hbw inM tyM okM nmM hown hK hP hD hS 0 rfl rfl 0 (by decide) (hbw _ kf_M_41) (fun _ h9 => h9) rfl (by decide +kernel) rfl rfl (Nat.le_of_ble_eq_true rfl) dM_refuse_26 (fun H locs hP hD hS => ?_)
    have hP : va_P (dC, dI) cls2 (mw r cI cZ (b) (va_up (g) 0 (nI (mTh x y z)))) H := hP
    have hD : va_D A (mw r cI cZ (b) (va_up (g) 0 (nI (mTh x y z)))) := hD
    refine lv_aload_n hx hb dM_refuse_29 rfl (lv_at hl 0 rfl) ?_
    refine va_get (D := (dC, dI)) (ci := 1) (v := .int (nI (mTh x y z))) (C := "EventPatternsModel") (T := TM) (N := 16) hx hb hbw inM hown hK hP 0 rfl rfl 0 (by decide) (hbw _ kf_M_41) (fun _ h9 => h9) rfl dM_refuse_30 ?_
    have hth : mTh x y z ≤ 3 := by unfold mTh; cases x <;> cases y <;> cases z <;> decide
    refine nr_if_le (tgt := 40) hx hb (a1 := mTh x y z) (by omega) dM_refuse_33 (by decide) (fun c_33 => ?_) (fun c_33 => ?_)
    · refine lv_iconst (v := 0) hx hb dM_refuse_40 (by decide) ?_
      exact W.zret (v := 0) hx hb hr rfl (fun t ht hW => ⟨⟨0, (b, va_up g 0 (nI (mTh x y z))), rfl, ⟨by first | (rw [decide_eq_true (by omega)]; rfl) | (rw [decide_eq_false (by omega)]; rfl), rfl⟩, by rw [ht]; exact hP, va_K.moved hW.alike hK, hD⟩, hS.F ht⟩) hS.2.2 dM_refuse_41
    · refine lv_iconst (v := 1) hx hb dM_refuse_36 (by decide) ?_
      refine lv_goto (tgt := 41) hx hb dM_refuse_37 (by decide) ?_
      exact W.zret (v := 1) hx hb hr rfl (fun t ht hW => ⟨⟨1, (b, va_up g 0 (nI (mTh x y z))), rfl, ⟨by first | (rw [decide_eq_true (by omega)]; rfl) | (rw [decide_eq_false (by omega)]; rfl), rfl⟩, by rw [ht]; exact hP, va_K.moved hW.alike hK, hD⟩, hS.F ht⟩) hS.2.2 dM_refuse_41
set_option maxHeartbeats 4000000 in
set_option maxRecDepth 100000 in
/-- clear() -/
theorem tM_clear (l : Launch) (dC : Nat → ClassId) (dI : Nat → Nat → Nat) (r : Nat → Nat) (cI cZ cG : ClassId) (b : Nat → Nat → Int32) (g : Nat → Int32) (sz : Nat)   : Met l yM_clear wM_clear ({ frames := 0, cells := 0, slots := 0, locals := 0 }) (va_Pc [.ref (r 0)] (fun U => U.heap.size = sz ∧ va_P (dC, dI) cls2 (mw r cI cZ b g) U.heap ∧ va_K (dC, dI) cls2 (xt cI cZ cG) U ∧ va_D (fun _ => True) (mw r cI cZ b g))) (va_Qv (fun (u : MS) => u = (b, va_up (va_up g 0 0) 1 0)) (atM dC dI r cI cZ cG (va_A (mw r cI cZ b g) sz)) (va_A (mw r cI cZ b g) sz)) 0 0 (va_A (mw r cI cZ b g) sz) := by
  refine Met.ofW (cc := cM_clear) (maxL := 1) (ret := none) (by decide) rfl ?_
  intro p e s m args below meth c s₁ B hml hv
  obtain ⟨rfl, hsz, hP, hK, hD0⟩ := hv
  have hx := B.exec
  have hb := B.bytes
  have hr := B.returns
  have hbw : ∀ w ∈ bw, w.before _ s = true := fun w h => atoms_spec (ws := wM_clear) B.pre w (List.mem_cons_of_mem _ h)
  have hown : s.vm.findClass "EventPatternsModel" = some m.cls := findClass_of_methodNamed B.named
  have hlocks := B.notSynchronized
  subst hsz
  have hD := hD0.self (sz := s.heap.size)
  generalize hAe : va_A (mw r cI cZ b g) s.heap.size = A at hD ⊢
  have hA : ∀ q : Nat, s.heap.size ≤ q → A q := fun q h => by rw [← hAe]; exact Or.inr h
  have hS : va_S A s.heap s.heap [] := va_S.rf
  have hl := lv_entry ([.ref (r 0)]) (n := 1) (Nat.le_of_ble_eq_true rfl)
  rw [lg_entry_eq]
  generalize (lg_sl ([.ref (r 0)]) ++ List.replicate (1 - (lg_sl ([.ref (r 0)])).length) Slot.unset).toArray = ls at hl ⊢
  have hl : lv_has ls 1 [(0, .ref (r 0))] := hl
  refine lv_aload_n hx hb dM_clear_0 rfl (lv_at hl 0 rfl) ?_
  refine lv_iconst (v := 0) hx hb dM_clear_1 (by decide) ?_
  refine va_put (D := (dC, dI)) (ci := 1) (v := .int (0)) (ty := .int) (C := "EventPatternsModel") (T := TM) (N := 16) hx hb hbw inM tyM okM nmM hown hK hP hD hS 0 rfl rfl 0 (by decide) (hbw _ kf_M_41) (fun _ h9 => h9) rfl (by decide +kernel) rfl rfl (Nat.le_of_ble_eq_true rfl) dM_clear_2 (fun H locs hP hD hS => ?_)
  have hP : va_P (dC, dI) cls2 (mw r cI cZ (b) (va_up (g) 0 (0))) H := hP
  have hD : va_D A (mw r cI cZ (b) (va_up (g) 0 (0))) := hD
  refine lv_aload_n hx hb dM_clear_5 rfl (lv_at hl 0 rfl) ?_
  refine lv_iconst (v := 0) hx hb dM_clear_6 (by decide) ?_
  refine va_put (D := (dC, dI)) (ci := 1) (v := .int (0)) (ty := .int) (C := "EventPatternsModel") (T := TM) (N := 16) hx hb hbw inM tyM okM nmM hown hK hP hD hS 0 rfl rfl 1 (by decide) (hbw _ kf_M_45) (fun _ h9 => h9) rfl (by decide +kernel) rfl rfl (Nat.le_of_ble_eq_true rfl) dM_clear_7 (fun H locs hP hD hS => ?_)
  have hP : va_P (dC, dI) cls2 (mw r cI cZ (b) (va_up (va_up (g) 0 (0)) 1 (0))) H := hP
  have hD : va_D A (mw r cI cZ (b) (va_up (va_up (g) 0 (0)) 1 (0))) := hD
  exact W.vret hx hb hr (fun t ht hW => ⟨⟨(b, va_up (va_up g 0 0) 1 0), rfl, rfl, by rw [ht]; exact hP, va_K.moved hW.alike hK, hD⟩, hS.F ht⟩) hS.2.2 dM_clear_10
set_option maxHeartbeats 4000000 in
set_option maxRecDepth 100000 in
/-- events() -/
theorem tM_events (l : Launch) (dC : Nat → ClassId) (dI : Nat → Nat → Nat) (r : Nat → Nat) (cI cZ cG : ClassId) (b : Nat → Nat → Int32) (g : Nat → Int32) (sz : Nat)   : Met l yM_events wM_events ({ frames := 0, cells := 0, slots := 0, locals := 0 }) (va_Pc [.ref (r 0)] (fun U => U.heap.size = sz ∧ va_P (dC, dI) cls2 (mw r cI cZ b g) U.heap ∧ va_K (dC, dI) cls2 (xt cI cZ cG) U ∧ va_D (fun _ => True) (mw r cI cZ b g))) (va_Qi (fun (r0 : Int32) (u : MS) => r0 = g 1 ∧ u = (b, va_up g 0 0)) (atM dC dI r cI cZ cG (va_A (mw r cI cZ b g) sz)) (va_A (mw r cI cZ b g) sz)) 0 0 (va_A (mw r cI cZ b g) sz) := by
  refine Met.ofW (cc := cM_events) (maxL := 1) (ret := (some .int)) (by decide) rfl ?_
  intro p e s m args below meth c s₁ B hml hv
  obtain ⟨rfl, hsz, hP, hK, hD0⟩ := hv
  have hx := B.exec
  have hb := B.bytes
  have hr := B.returns
  have hbw : ∀ w ∈ bw, w.before _ s = true := fun w h => atoms_spec (ws := wM_events) B.pre w (List.mem_cons_of_mem _ h)
  have hown : s.vm.findClass "EventPatternsModel" = some m.cls := findClass_of_methodNamed B.named
  have hlocks := B.notSynchronized
  subst hsz
  have hD := hD0.self (sz := s.heap.size)
  generalize hAe : va_A (mw r cI cZ b g) s.heap.size = A at hD ⊢
  have hA : ∀ q : Nat, s.heap.size ≤ q → A q := fun q h => by rw [← hAe]; exact Or.inr h
  have hS : va_S A s.heap s.heap [] := va_S.rf
  have hl := lv_entry ([.ref (r 0)]) (n := 1) (Nat.le_of_ble_eq_true rfl)
  rw [lg_entry_eq]
  generalize (lg_sl ([.ref (r 0)]) ++ List.replicate (1 - (lg_sl ([.ref (r 0)])).length) Slot.unset).toArray = ls at hl ⊢
  have hl : lv_has ls 1 [(0, .ref (r 0))] := hl
  refine lv_aload_n hx hb dM_events_0 rfl (lv_at hl 0 rfl) ?_
  refine lv_iconst (v := 0) hx hb dM_events_1 (by decide) ?_
  refine va_put (D := (dC, dI)) (ci := 1) (v := .int (0)) (ty := .int) (C := "EventPatternsModel") (T := TM) (N := 16) hx hb hbw inM tyM okM nmM hown hK hP hD hS 0 rfl rfl 0 (by decide) (hbw _ kf_M_41) (fun _ h9 => h9) rfl (by decide +kernel) rfl rfl (Nat.le_of_ble_eq_true rfl) dM_events_2 (fun H locs hP hD hS => ?_)
  have hP : va_P (dC, dI) cls2 (mw r cI cZ (b) (va_up (g) 0 (0))) H := hP
  have hD : va_D A (mw r cI cZ (b) (va_up (g) 0 (0))) := hD
  refine lv_aload_n hx hb dM_events_5 rfl (lv_at hl 0 rfl) ?_
  refine va_get (D := (dC, dI)) (ci := 1) (v := .int (g 1)) (C := "EventPatternsModel") (T := TM) (N := 16) hx hb hbw inM hown hK hP 0 rfl rfl 1 (by decide) (hbw _ kf_M_45) (fun _ h9 => h9) rfl dM_events_6 ?_
  exact W.iret (v := g 1) hx hb hr (fun t ht hW => ⟨⟨g 1, (b, va_up g 0 0), rfl, ⟨rfl, rfl⟩, by rw [ht]; exact hP, va_K.moved hW.alike hK, hD⟩, hS.F ht⟩) hS.2.2 dM_events_9
def mAdd (b : Nat → Nat → Int32) (L e1 st : Nat) : Nat → Nat → Int32 := va_up (va_up b 8 (upd (b 8) L (nI e1))) 9 (upd (b 9) L (nI st))
set_option maxHeartbeats 4000000 in
set_option maxRecDepth 100000 in
/-- notes(e, s) -/
theorem tM_notes (l : Launch) (dC : Nat → ClassId) (dI : Nat → Nat → Nat) (r : Nat → Nat) (cI cZ cG : ClassId) (b : Nat → Nat → Int32) (g : Nat → Int32) (sz : Nat) (L e1 st : Nat) (hL : L < 16) (hg5 : g 5 = nI L) : Met l yM_notes wM_notes ({ frames := 0, cells := 0, slots := 0, locals := 0 }) (va_Pc [.ref (r 0), .int (nI (e1)), .int (nI (st))] (fun U => U.heap.size = sz ∧ va_P (dC, dI) cls2 (mw r cI cZ b g) U.heap ∧ va_K (dC, dI) cls2 (xt cI cZ cG) U ∧ va_D (fun _ => True) (mw r cI cZ b g))) (va_Qv (fun (u : MS) => u = (mAdd b L e1 st, va_up g 5 (nI (L + 1)))) (atM dC dI r cI cZ cG (va_A (mw r cI cZ b g) sz)) (va_A (mw r cI cZ b g) sz)) 0 0 (va_A (mw r cI cZ b g) sz) := by
  refine Met.ofW (cc := cM_notes) (maxL := 3) (ret := none) (by decide) rfl ?_
  intro p e s m args below meth c s₁ B hml hv
  obtain ⟨rfl, hsz, hP, hK, hD0⟩ := hv
  have hx := B.exec
  have hb := B.bytes
  have hr := B.returns
  have hbw : ∀ w ∈ bw, w.before _ s = true := fun w h => atoms_spec (ws := wM_notes) B.pre w (List.mem_cons_of_mem _ h)
  have hown : s.vm.findClass "EventPatternsModel" = some m.cls := findClass_of_methodNamed B.named
  have hlocks := B.notSynchronized
  subst hsz
  have hD := hD0.self (sz := s.heap.size)
  generalize hAe : va_A (mw r cI cZ b g) s.heap.size = A at hD ⊢
  have hA : ∀ q : Nat, s.heap.size ≤ q → A q := fun q h => by rw [← hAe]; exact Or.inr h
  have hS : va_S A s.heap s.heap [] := va_S.rf
  have hl := lv_entry ([.ref (r 0), .int (nI (e1)), .int (nI (st))]) (n := 3) (Nat.le_of_ble_eq_true rfl)
  rw [lg_entry_eq]
  generalize (lg_sl ([.ref (r 0), .int (nI (e1)), .int (nI (st))]) ++ List.replicate (3 - (lg_sl ([.ref (r 0), .int (nI (e1)), .int (nI (st))])).length) Slot.unset).toArray = ls at hl ⊢
  have hl : lv_has ls 3 [(0, .ref (r 0)), (1, .int (nI (e1))), (2, .int (nI (st)))] := hl
  refine lv_aload_n hx hb dM_notes_0 rfl (lv_at hl 0 rfl) ?_
  refine va_get (D := (dC, dI)) (ci := 1) (v := .ref (r 9)) (C := "EventPatternsModel") (T := TM) (N := 16) hx hb hbw inM hown hK hP 0 rfl rfl 14 (by decide) (hbw _ kf_M_35) (fun _ h9 => h9) rfl dM_notes_1 ?_
  refine lv_aload_n hx hb dM_notes_4 rfl (lv_at hl 0 rfl) ?_
  refine va_get (D := (dC, dI)) (ci := 1) (v := .int (nI (L))) (C := "EventPatternsModel") (T := TM) (N := 16) hx hb hbw inM hown hK hP 0 rfl rfl 13 (by decide) (hbw _ kf_M_82) (fun _ h9 => h9) (congrArg (fun z => some (Value.int z)) (hg5)) dM_notes_5 ?_
  refine lv_iload_n hx hb dM_notes_8 rfl (lv_at hl 1 rfl) ?_
  refine nr_iast hx hb hK hP hD hS 9 0 rfl rfl (j := L) (by omega) (by decide) dM_notes_9 (fun H locs hP hD hS => ?_)
  have hP : va_P (dC, dI) cls2 (mw r cI cZ (va_up (b) 8 (upd (b 8) (L) (nI (e1)))) (g)) H := hP
  have hD : va_D A (mw r cI cZ (va_up (b) 8 (upd (b 8) (L) (nI (e1)))) (g)) := hD
  refine lv_aload_n hx hb dM_notes_10 rfl (lv_at hl 0 rfl) ?_
  refine va_get (D := (dC, dI)) (ci := 1) (v := .ref (r 10)) (C := "EventPatternsModel") (T := TM) (N := 16) hx hb hbw inM hown hK hP 0 rfl rfl 15 (by decide) (hbw _ kf_M_38) (fun _ h9 => h9) rfl dM_notes_11 ?_
  refine lv_aload_n hx hb dM_notes_14 rfl (lv_at hl 0 rfl) ?_
  refine va_get (D := (dC, dI)) (ci := 1) (v := .int (nI (L))) (C := "EventPatternsModel") (T := TM) (N := 16) hx hb hbw inM hown hK hP 0 rfl rfl 13 (by decide) (hbw _ kf_M_82) (fun _ h9 => h9) (congrArg (fun z => some (Value.int z)) (hg5)) dM_notes_15 ?_
  refine lv_iload_n hx hb dM_notes_18 rfl (lv_at hl 2 rfl) ?_
  refine nr_iast hx hb hK hP hD hS 10 0 rfl rfl (j := L) (by omega) (by decide) dM_notes_19 (fun H locs hP hD hS => ?_)
  have hP : va_P (dC, dI) cls2 (mw r cI cZ (va_up (va_up (b) 8 (upd (b 8) (L) (nI (e1)))) 9 (upd (b 9) (L) (nI (st)))) (g)) H := hP
  have hD : va_D A (mw r cI cZ (va_up (va_up (b) 8 (upd (b 8) (L) (nI (e1)))) 9 (upd (b 9) (L) (nI (st)))) (g)) := hD
  refine lv_aload_n hx hb dM_notes_20 rfl (lv_at hl 0 rfl) ?_
  refine lv_dup hx hb dM_notes_21 rfl ?_
  refine va_get (D := (dC, dI)) (ci := 1) (v := .int (nI (L))) (C := "EventPatternsModel") (T := TM) (N := 16) hx hb hbw inM hown hK hP 0 rfl rfl 13 (by decide) (hbw _ kf_M_82) (fun _ h9 => h9) (congrArg (fun z => some (Value.int z)) (hg5)) dM_notes_22 ?_
  refine lv_iconst (v := 1) hx hb dM_notes_25 (by decide) ?_
  refine nr_iadd hx hb (a1 := L) (b1 := 1) dM_notes_26 ?_
  refine va_put (D := (dC, dI)) (ci := 1) (v := .int (nI (L + 1))) (ty := .int) (C := "EventPatternsModel") (T := TM) (N := 16) hx hb hbw inM tyM okM nmM hown hK hP hD hS 0 rfl rfl 13 (by decide) (hbw _ kf_M_82) (fun _ h9 => h9) rfl (by decide +kernel) rfl rfl (Nat.le_of_ble_eq_true rfl) dM_notes_27 (fun H locs hP hD hS => ?_)
  have hP : va_P (dC, dI) cls2 (mw r cI cZ (va_up (va_up (b) 8 (upd (b 8) (L) (nI (e1)))) 9 (upd (b 9) (L) (nI (st)))) (va_up (g) 5 (nI (L + 1)))) H := hP
  have hD : va_D A (mw r cI cZ (va_up (va_up (b) 8 (upd (b 8) (L) (nI (e1)))) 9 (upd (b 9) (L) (nI (st)))) (va_up (g) 5 (nI (L + 1)))) := hD
  exact W.vret hx hb hr (fun t ht hW => ⟨⟨(mAdd b L e1 st, va_up g 5 (nI (L + 1))), rfl, rfl, by rw [ht]; exact hP, va_K.moved hW.alike hK, hD⟩, hS.F ht⟩) hS.2.2 dM_notes_30
