/-! ROWS FOR INTS THAT ARE SMALL NATURALS, the two worlds, what throws need -/
section NR
variable {p : Program} {l : Launch} {e : Env} {R : Room} {s : State} {m : MethodId} {args : Array Value} {below : List Frame} {meth : Method} {c : Code} {H : Heap} {locs : List Loc} {cells slots : Nat} {Q : State → Prop}
variable {cc : ByteArray} {pc : Nat} {ls : Array Slot} {rest : List Value} {D : va_G} {cl : List vw_C} {A : Nat → Prop} {a : Nat} {tys : List (ClassId × FieldType)} {ws : va_W} {H0 : Heap}
theorem nr_iald (hexec : p.tables.exec = Jvm.exec) (hb : c.code = cc) (hK : va_K D cl tys s) (hP : va_P D cl ws H) (q0 t0 : Nat) {cA : ClassId} {n : Nat} {f : Nat → Int32} (ha : ws[q0]? = some (a, .inl (cA, n, .inl f))) (ht : tys[t0]? = some (cA, .int)) {j : Nat} (hj : j < n) (hn : n < 2 ^ 31) (hdg : decode cc pc = .ok (.iaload, 1))
    (kk : W p l e R s m args below meth c H locs cells slots Q (F0 m (pc + 1) ls (.int (f j) :: rest))) : W p l e R s m args below meth c H locs cells slots Q (F0 m pc ls (.int (nI j) :: .ref a :: rest)) := by
  refine va_iald hexec hb hK hP q0 t0 ha ht (vp_in_nI hj hn) hdg ?_
  rw [nI_clamp (Nat.lt_trans hj hn)]; exact kk
theorem nr_zald (hexec : p.tables.exec = Jvm.exec) (hb : c.code = cc) (hK : va_K D cl tys s) (hP : va_P D cl ws H) (q0 t0 : Nat) {cA : ClassId} {n : Nat} {f : Nat → Int32} (ha : ws[q0]? = some (a, .inl (cA, n, .inl f))) (ht : tys[t0]? = some (cA, .boolean)) {j : Nat} (hj : j < n) (hn : n < 2 ^ 31) (hdg : decode cc pc = .ok (.baload, 1))
    (kk : W p l e R s m args below meth c H locs cells slots Q (F0 m (pc + 1) ls (.int (f j) :: rest))) : W p l e R s m args below meth c H locs cells slots Q (F0 m pc ls (.int (nI j) :: .ref a :: rest)) := by
  refine va_zald hexec hb hK hP q0 t0 ha ht (vp_in_nI hj hn) hdg ?_
  rw [nI_clamp (Nat.lt_trans hj hn)]; exact kk
theorem nr_iast (hexec : p.tables.exec = Jvm.exec) (hb : c.code = cc) (hK : va_K D cl tys s) (hP : va_P D cl ws H) (hD : va_D A ws) (hS : va_S A H0 H locs) (q0 t0 : Nat) {cA : ClassId} {n : Nat} {f : Nat → Int32} (ha : ws[q0]? = some (a, .inl (cA, n, .inl f))) (ht : tys[t0]? = some (cA, .int)) {j : Nat} {x : Int32} (hj : j < n) (hn : n < 2 ^ 31) (hdg : decode cc pc = .ok (.iastore, 1))
    (kk : ∀ (H1 : Heap) (locs1 : List Loc), va_P D cl (ws.set q0 (a, .inl (cA, n, .inl (upd f j x)))) H1 → va_D A (ws.set q0 (a, .inl (cA, n, .inl (upd f j x)))) → va_S A H0 H1 locs1 → W p l e R s m args below meth c H1 locs1 cells slots Q (F0 m (pc + 1) ls rest)) : W p l e R s m args below meth c H locs cells slots Q (F0 m pc ls (.int x :: .int (nI j) :: .ref a :: rest)) := by
  refine va_iast hexec hb hK hP hD hS q0 t0 ha ht (vp_in_nI hj hn) hdg (fun H1 locs1 h1 h2 h3 => ?_)
  rw [nI_clamp (Nat.lt_trans hj hn)] at h1 h2
  exact kk H1 locs1 h1 h2 h3
theorem nr_zast (hexec : p.tables.exec = Jvm.exec) (hb : c.code = cc) (hK : va_K D cl tys s) (hP : va_P D cl ws H) (hD : va_D A ws) (hS : va_S A H0 H locs) (q0 t0 : Nat) {cA : ClassId} {n : Nat} {f : Nat → Int32} (ha : ws[q0]? = some (a, .inl (cA, n, .inl f))) (ht : tys[t0]? = some (cA, .boolean)) {j : Nat} {x : Int32} (hj : j < n) (hn : n < 2 ^ 31) (hdg : decode cc pc = .ok (.bastore, 1))
    (kk : ∀ (H1 : Heap) (locs1 : List Loc), va_P D cl (ws.set q0 (a, .inl (cA, n, .inl (upd f j (vp_nar .boolean x))))) H1 → va_D A (ws.set q0 (a, .inl (cA, n, .inl (upd f j (vp_nar .boolean x))))) → va_S A H0 H1 locs1 → W p l e R s m args below meth c H1 locs1 cells slots Q (F0 m (pc + 1) ls rest)) : W p l e R s m args below meth c H locs cells slots Q (F0 m pc ls (.int x :: .int (nI j) :: .ref a :: rest)) := by
  refine va_zast hexec hb hK hP hD hS q0 t0 ha ht (vp_in_nI hj hn) hdg (fun H1 locs1 h1 h2 h3 => ?_)
  rw [nI_clamp (Nat.lt_trans hj hn)] at h1 h2
  exact kk H1 locs1 h1 h2 h3
theorem nr_aald (hexec : p.tables.exec = Jvm.exec) (hb : c.code = cc) (hK : va_K D cl tys s) (hP : va_P D cl ws H) (q0 t0 : Nat) {cA : ClassId} {n : Nat} {f : Nat → Option Nat} (ha : ws[q0]? = some (a, .inl (cA, n, .inr (.inr (.inr (.inr f)))))) (ht : tys[t0]? = some (cA, .array .int)) {j : Nat} (hj : j < n) (hn : n < 2 ^ 31) (hdg : decode cc pc = .ok (.aaload, 1))
    (kk : W p l e R s m args below meth c H locs cells slots Q (F0 m (pc + 1) ls (va_rf (f j) :: rest))) : W p l e R s m args below meth c H locs cells slots Q (F0 m pc ls (.int (nI j) :: .ref a :: rest)) := by
  have hin : vp_in (nI j) n := vp_in_nI hj hn
  have hc : (nI j).toNatClampNeg = j := nI_clamp (Nat.lt_trans hj hn)
  refine W.aald (v := va_rf (f j)) (ty := .array .int) hexec hb (hP q0 _ ha) ((hK.2 t0 _ ht).1 n (fun j => va_rf (f j))) rfl (fun q => by cases q) (by show ¬ (nI j < 0 ∨ (arrV _ _ _).slots.size ≤ _); rw [arrV_size]; exact hin) (by show (arrV _ _ _).slots[_]? = _; rw [hc, arrV_read _ _ hj]) rfl rfl hdg kk
theorem nr_iadd (hexec : p.tables.exec = Jvm.exec) (hb : c.code = cc) {a1 b1 : Nat} (hdg : decode cc pc = .ok (.iadd, 1)) (k : W p l e R s m args below meth c H locs cells slots Q (F0 m (pc + 1) ls (.int (nI (a1 + b1)) :: rest))) : W p l e R s m args below meth c H locs cells slots Q (F0 m pc ls (.int (nI b1) :: .int (nI a1) :: rest)) := by
  refine lv_iadd hexec hb hdg ?_
  rw [nI_add a1 b1]; exact k
theorem nr_isub (hexec : p.tables.exec = Jvm.exec) (hb : c.code = cc) {a1 b1 : Nat} (hle : b1 ≤ a1) (hdg : decode cc pc = .ok (.isub, 1)) (k : W p l e R s m args below meth c H locs cells slots Q (F0 m (pc + 1) ls (.int (nI (a1 - b1)) :: rest))) : W p l e R s m args below meth c H locs cells slots Q (F0 m pc ls (.int (nI b1) :: .int (nI a1) :: rest)) := by
  refine lv_isub hexec hb hdg ?_
  rw [pk_sub hle]; exact k
theorem nr_imul (hexec : p.tables.exec = Jvm.exec) (hb : c.code = cc) {a1 b1 : Nat} (hdg : decode cc pc = .ok (.imul, 1)) (k : W p l e R s m args below meth c H locs cells slots Q (F0 m (pc + 1) ls (.int (nI (a1 * b1)) :: rest))) : W p l e R s m args below meth c H locs cells slots Q (F0 m pc ls (.int (nI b1) :: .int (nI a1) :: rest)) := by
  refine lv_imul hexec hb hdg ?_
  rw [pk_mul a1 b1]; exact k
theorem nr_icmp_eq (hexec : p.tables.exec = Jvm.exec) (hb : c.code = cc) {a1 b1 : Nat} (ha : a1 < 2 ^ 31) (hb1 : b1 < 2 ^ 31) {off : Int} {tgt : Nat} (hdg : decode cc pc = .ok (.if_icmp .eq off, 3)) (ht : (pc : Int) + off = (tgt : Int))
    (kt : a1 = b1 → W p l e R s m args below meth c H locs cells slots Q (F0 m tgt ls rest)) (kf : a1 ≠ b1 → W p l e R s m args below meth c H locs cells slots Q (F0 m (pc + 3) ls rest)) : W p l e R s m args below meth c H locs cells slots Q (F0 m pc ls (.int (nI b1) :: .int (nI a1) :: rest)) :=
  lv_icmp_eq hexec hb hdg ht (fun h => kt ((nI_eq ha hb1).mp h)) (fun h => kf (fun q => h ((nI_eq ha hb1).mpr q)))
theorem nr_if_eq (hexec : p.tables.exec = Jvm.exec) (hb : c.code = cc) {a1 : Nat} (ha : a1 < 2 ^ 31) {off : Int} {tgt : Nat} (hdg : decode cc pc = .ok (.ifCond .eq off, 3)) (ht : (pc : Int) + off = (tgt : Int))
    (kt : a1 = 0 → W p l e R s m args below meth c H locs cells slots Q (F0 m tgt ls rest)) (kf : a1 ≠ 0 → W p l e R s m args below meth c H locs cells slots Q (F0 m (pc + 3) ls rest)) : W p l e R s m args below meth c H locs cells slots Q (F0 m pc ls (.int (nI a1) :: rest)) := by
  have hb1 : 0 < 2 ^ 31 := by decide
  refine lv_if_eq hexec hb hdg ht (fun h => kt ?_) (fun h => kf ?_) <;> rw [← nI_0] at h
  · exact (nI_eq ha hb1).mp h
  · exact fun q => h ((nI_eq ha hb1).mpr q)
theorem nr_icmp_ne (hexec : p.tables.exec = Jvm.exec) (hb : c.code = cc) {a1 b1 : Nat} (ha : a1 < 2 ^ 31) (hb1 : b1 < 2 ^ 31) {off : Int} {tgt : Nat} (hdg : decode cc pc = .ok (.if_icmp .ne off, 3)) (ht : (pc : Int) + off = (tgt : Int))
    (kt : a1 ≠ b1 → W p l e R s m args below meth c H locs cells slots Q (F0 m tgt ls rest)) (kf : a1 = b1 → W p l e R s m args below meth c H locs cells slots Q (F0 m (pc + 3) ls rest)) : W p l e R s m args below meth c H locs cells slots Q (F0 m pc ls (.int (nI b1) :: .int (nI a1) :: rest)) :=
  lv_icmp_ne hexec hb hdg ht (fun h => kt (fun q => h ((nI_eq ha hb1).mpr q))) (fun h => kf ((nI_eq ha hb1).mp h))
theorem nr_if_ne (hexec : p.tables.exec = Jvm.exec) (hb : c.code = cc) {a1 : Nat} (ha : a1 < 2 ^ 31) {off : Int} {tgt : Nat} (hdg : decode cc pc = .ok (.ifCond .ne off, 3)) (ht : (pc : Int) + off = (tgt : Int))
    (kt : a1 ≠ 0 → W p l e R s m args below meth c H locs cells slots Q (F0 m tgt ls rest)) (kf : a1 = 0 → W p l e R s m args below meth c H locs cells slots Q (F0 m (pc + 3) ls rest)) : W p l e R s m args below meth c H locs cells slots Q (F0 m pc ls (.int (nI a1) :: rest)) := by
  have hb1 : 0 < 2 ^ 31 := by decide
  refine lv_if_ne hexec hb hdg ht (fun h => kt ?_) (fun h => kf ?_) <;> rw [← nI_0] at h
  · exact fun q => h ((nI_eq ha hb1).mpr q)
  · exact (nI_eq ha hb1).mp h
theorem nr_icmp_lt (hexec : p.tables.exec = Jvm.exec) (hb : c.code = cc) {a1 b1 : Nat} (ha : a1 < 2 ^ 31) (hb1 : b1 < 2 ^ 31) {off : Int} {tgt : Nat} (hdg : decode cc pc = .ok (.if_icmp .lt off, 3)) (ht : (pc : Int) + off = (tgt : Int))
    (kt : a1 < b1 → W p l e R s m args below meth c H locs cells slots Q (F0 m tgt ls rest)) (kf : b1 ≤ a1 → W p l e R s m args below meth c H locs cells slots Q (F0 m (pc + 3) ls rest)) : W p l e R s m args below meth c H locs cells slots Q (F0 m pc ls (.int (nI b1) :: .int (nI a1) :: rest)) :=
  lv_icmp_lt hexec hb hdg ht (fun h => kt ((nI_ltI ha hb1).mp h)) (fun h => kf (Nat.not_lt.mp (fun q => h ((nI_ltI ha hb1).mpr q))))
theorem nr_if_lt (hexec : p.tables.exec = Jvm.exec) (hb : c.code = cc) {a1 : Nat} (ha : a1 < 2 ^ 31) {off : Int} {tgt : Nat} (hdg : decode cc pc = .ok (.ifCond .lt off, 3)) (ht : (pc : Int) + off = (tgt : Int))
    (kt : a1 < 0 → W p l e R s m args below meth c H locs cells slots Q (F0 m tgt ls rest)) (kf : 0 ≤ a1 → W p l e R s m args below meth c H locs cells slots Q (F0 m (pc + 3) ls rest)) : W p l e R s m args below meth c H locs cells slots Q (F0 m pc ls (.int (nI a1) :: rest)) := by
  have hb1 : 0 < 2 ^ 31 := by decide
  refine lv_if_lt hexec hb hdg ht (fun h => kt ?_) (fun h => kf ?_) <;> rw [← nI_0] at h
  · exact (nI_ltI ha hb1).mp h
  · exact Nat.not_lt.mp (fun q => h ((nI_ltI ha hb1).mpr q))
theorem nr_icmp_ge (hexec : p.tables.exec = Jvm.exec) (hb : c.code = cc) {a1 b1 : Nat} (ha : a1 < 2 ^ 31) (hb1 : b1 < 2 ^ 31) {off : Int} {tgt : Nat} (hdg : decode cc pc = .ok (.if_icmp .ge off, 3)) (ht : (pc : Int) + off = (tgt : Int))
    (kt : b1 ≤ a1 → W p l e R s m args below meth c H locs cells slots Q (F0 m tgt ls rest)) (kf : a1 < b1 → W p l e R s m args below meth c H locs cells slots Q (F0 m (pc + 3) ls rest)) : W p l e R s m args below meth c H locs cells slots Q (F0 m pc ls (.int (nI b1) :: .int (nI a1) :: rest)) :=
  lv_icmp_ge hexec hb hdg ht (fun h => kt ((nI_leI hb1 ha).mp h)) (fun h => kf (Nat.not_le.mp (fun q => h ((nI_leI hb1 ha).mpr q))))
theorem nr_if_ge (hexec : p.tables.exec = Jvm.exec) (hb : c.code = cc) {a1 : Nat} (ha : a1 < 2 ^ 31) {off : Int} {tgt : Nat} (hdg : decode cc pc = .ok (.ifCond .ge off, 3)) (ht : (pc : Int) + off = (tgt : Int))
    (kt : 0 ≤ a1 → W p l e R s m args below meth c H locs cells slots Q (F0 m tgt ls rest)) (kf : a1 < 0 → W p l e R s m args below meth c H locs cells slots Q (F0 m (pc + 3) ls rest)) : W p l e R s m args below meth c H locs cells slots Q (F0 m pc ls (.int (nI a1) :: rest)) := by
  have hb1 : 0 < 2 ^ 31 := by decide
  refine lv_if_ge hexec hb hdg ht (fun h => kt ?_) (fun h => kf ?_) <;> rw [← nI_0] at h
  · exact (nI_leI hb1 ha).mp h
  · exact Nat.not_le.mp (fun q => h ((nI_leI hb1 ha).mpr q))
theorem nr_icmp_gt (hexec : p.tables.exec = Jvm.exec) (hb : c.code = cc) {a1 b1 : Nat} (ha : a1 < 2 ^ 31) (hb1 : b1 < 2 ^ 31) {off : Int} {tgt : Nat} (hdg : decode cc pc = .ok (.if_icmp .gt off, 3)) (ht : (pc : Int) + off = (tgt : Int))
    (kt : b1 < a1 → W p l e R s m args below meth c H locs cells slots Q (F0 m tgt ls rest)) (kf : a1 ≤ b1 → W p l e R s m args below meth c H locs cells slots Q (F0 m (pc + 3) ls rest)) : W p l e R s m args below meth c H locs cells slots Q (F0 m pc ls (.int (nI b1) :: .int (nI a1) :: rest)) :=
  lv_icmp_gt hexec hb hdg ht (fun h => kt ((nI_ltI hb1 ha).mp h)) (fun h => kf (Nat.not_lt.mp (fun q => h ((nI_ltI hb1 ha).mpr q))))
theorem nr_if_gt (hexec : p.tables.exec = Jvm.exec) (hb : c.code = cc) {a1 : Nat} (ha : a1 < 2 ^ 31) {off : Int} {tgt : Nat} (hdg : decode cc pc = .ok (.ifCond .gt off, 3)) (ht : (pc : Int) + off = (tgt : Int))
    (kt : 0 < a1 → W p l e R s m args below meth c H locs cells slots Q (F0 m tgt ls rest)) (kf : a1 ≤ 0 → W p l e R s m args below meth c H locs cells slots Q (F0 m (pc + 3) ls rest)) : W p l e R s m args below meth c H locs cells slots Q (F0 m pc ls (.int (nI a1) :: rest)) := by
  have hb1 : 0 < 2 ^ 31 := by decide
  refine lv_if_gt hexec hb hdg ht (fun h => kt ?_) (fun h => kf ?_) <;> rw [← nI_0] at h
  · exact (nI_ltI hb1 ha).mp h
  · exact Nat.not_lt.mp (fun q => h ((nI_ltI hb1 ha).mpr q))
theorem nr_icmp_le (hexec : p.tables.exec = Jvm.exec) (hb : c.code = cc) {a1 b1 : Nat} (ha : a1 < 2 ^ 31) (hb1 : b1 < 2 ^ 31) {off : Int} {tgt : Nat} (hdg : decode cc pc = .ok (.if_icmp .le off, 3)) (ht : (pc : Int) + off = (tgt : Int))
    (kt : a1 ≤ b1 → W p l e R s m args below meth c H locs cells slots Q (F0 m tgt ls rest)) (kf : b1 < a1 → W p l e R s m args below meth c H locs cells slots Q (F0 m (pc + 3) ls rest)) : W p l e R s m args below meth c H locs cells slots Q (F0 m pc ls (.int (nI b1) :: .int (nI a1) :: rest)) :=
  lv_icmp_le hexec hb hdg ht (fun h => kt ((nI_leI ha hb1).mp h)) (fun h => kf (Nat.not_le.mp (fun q => h ((nI_leI ha hb1).mpr q))))
theorem nr_if_le (hexec : p.tables.exec = Jvm.exec) (hb : c.code = cc) {a1 : Nat} (ha : a1 < 2 ^ 31) {off : Int} {tgt : Nat} (hdg : decode cc pc = .ok (.ifCond .le off, 3)) (ht : (pc : Int) + off = (tgt : Int))
    (kt : a1 ≤ 0 → W p l e R s m args below meth c H locs cells slots Q (F0 m tgt ls rest)) (kf : 0 < a1 → W p l e R s m args below meth c H locs cells slots Q (F0 m (pc + 3) ls rest)) : W p l e R s m args below meth c H locs cells slots Q (F0 m pc ls (.int (nI a1) :: rest)) := by
  have hb1 : 0 < 2 ^ 31 := by decide
  refine lv_if_le hexec hb hdg ht (fun h => kt ?_) (fun h => kf ?_) <;> rw [← nI_0] at h
  · exact (nI_leI ha hb1).mp h
  · exact Nat.not_le.mp (fun q => h ((nI_leI ha hb1).mpr q))
end NR
abbrev cls2 : List vw_C := [("EventPatterns", TX, 16), ("EventPatternsModel", TM, 16)]
/-- the class's object: its cell, its eleven arrays, the sixteen rows of ways. a: the arrays' contents (0 eventTimes, 1 eventKinds, 2 eventValues, 3 stepKinds, 4 stepTests, 5 stepBounds, 6 stepMany, 7 foundPlaces, 8 foundSteps); f: the numbers (0 came, 1 kept, 2 style, 3 span, 4 steps, 5 foundLength); w: ways -/
abbrev xw (q : Nat → Nat) (cI cZ cG : ClassId) (a : Nat → Nat → Int32) (f : Nat → Int32) (w : Nat → Nat → Int32) : va_W :=
  [(q 0, .inr (0, [.ref (q 1), .ref (q 2), .ref (q 3), .int (f 0), .int (f 1), .ref (q 4), .ref (q 5), .ref (q 6), .ref (q 7), .int (f 2), .int (f 3), .int (f 4), .ref (q 8), .ref (q 9), .ref (q 10), .int (f 5)])),
   (q 1, .inl (cI, 16, .inl (a 0))), (q 2, .inl (cI, 16, .inl (a 1))), (q 3, .inl (cI, 16, .inl (a 2))),
   (q 4, .inl (cI, 5, .inl (a 3))), (q 5, .inl (cI, 5, .inl (a 4))), (q 6, .inl (cI, 5, .inl (a 5))), (q 7, .inl (cZ, 5, .inl (a 6))),
   (q 8, .inl (cG, 16, .inr (.inr (.inr (.inr (fun k => some (q (11 + k)))))))),
   (q 9, .inl (cI, 16, .inl (a 7))), (q 10, .inl (cI, 16, .inl (a 8)))] ++ (List.range 16).map (fun k => (q (11 + k), .inl (cI, 5, .inl (w k))))
/-- the reference's object: its cell and ten arrays. b: the arrays' contents (0 times, 1 kinds, 2 values, 3 of, 4 tests, 5 least, 6 many, 7 ways, 8 foundAt, 9 foundStep); g: the numbers (0 thrown, 1 events, 2 style, 3 span, 4 steps, 5 found) -/
abbrev mw (r : Nat → Nat) (cI cZ : ClassId) (b : Nat → Nat → Int32) (g : Nat → Int32) : va_W :=
  [(r 0, .inr (1, [.int (g 0), .int (g 1), .ref (r 1), .ref (r 2), .ref (r 3), .int (g 2), .int (g 3), .int (g 4), .ref (r 4), .ref (r 5), .ref (r 6), .ref (r 7), .ref (r 8), .int (g 5), .ref (r 9), .ref (r 10)])),
   (r 1, .inl (cI, 400, .inl (b 0))), (r 2, .inl (cI, 400, .inl (b 1))), (r 3, .inl (cI, 400, .inl (b 2))),
   (r 4, .inl (cI, 5, .inl (b 3))), (r 5, .inl (cI, 5, .inl (b 4))), (r 6, .inl (cI, 5, .inl (b 5))), (r 7, .inl (cZ, 5, .inl (b 6))),
   (r 8, .inl (cI, 80, .inl (b 7))), (r 9, .inl (cI, 16, .inl (b 8))), (r 10, .inl (cI, 16, .inl (b 9)))]
abbrev xt (cI cZ cG : ClassId) : List (ClassId × FieldType) := [(cI, .int), (cZ, .boolean), (cG, .array .int)]
/-- a row of ways, by its number -/
theorem xw_row (q : Nat → Nat) (cI cZ cG : ClassId) (a : Nat → Nat → Int32) (f : Nat → Int32) (w : Nat → Nat → Int32) {k : Nat} (hk : k < 16) : (xw q cI cZ cG a f w)[11 + k]? = some (q (11 + k), .inl (cI, 5, .inl (w k))) := by
  unfold xw
  rw [List.getElem?_append_right (by simp)]
  simp [hk]
theorem xw_put (q : Nat → Nat) (cI cZ cG : ClassId) (a : Nat → Nat → Int32) (f : Nat → Int32) (w : Nat → Nat → Int32) {k : Nat} (hk : k < 16) (g : Nat → Int32) : (xw q cI cZ cG a f w).set (11 + k) (q (11 + k), .inl (cI, 5, .inl g)) = xw q cI cZ cG a f (va_up w k g) := by
  unfold xw
  rw [List.set_append_right _ _ (by simp)]
  congr 1
  apply List.ext_getElem?
  intro i
  simp only [List.length_cons, List.length_nil, Nat.zero_add, Nat.add_sub_cancel_left, List.getElem?_set, List.getElem?_map, List.length_map, List.length_range]
  by_cases h : k = i
  · subst h
    simp [hk, va_up]
  · simp only [h, if_false]
    by_cases h2 : i < 16
    · simp [h2, va_up, Ne.symm h]
    · simp [h2]
