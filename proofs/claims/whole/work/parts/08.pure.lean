/-! WHAT THE CLASS'S READING METHODS ANSWER -/
theorem nr_dec {j : Nat} (h : 1 ≤ j) : nI j + Int32.ofInt (-1) = nI (j - 1) := by
  obtain ⟨k, rfl⟩ : ∃ k, j = k + 1 := ⟨j - 1, by omega⟩
  exact pk_m1 k
def bI (b : Bool) : Int32 := if b then 1 else 0
theorem bI_t : bI true = 1 := rfl
theorem bI_f : bI false = 0 := rfl
section NRB
variable {p : Program} {l : Launch} {e : Env} {R : Room} {s : State} {m : MethodId} {args : Array Value} {below : List Frame} {meth : Method} {c : Code} {H : Heap} {locs : List Loc} {cells slots : Nat} {Q : State → Prop}
variable {cc : ByteArray} {pc : Nat} {ls : Array Slot} {rest : List Value}
theorem nr_ifb_ne (hexec : p.tables.exec = Jvm.exec) (hb : c.code = cc) {b : Bool} {off : Int} {tgt : Nat} (hdg : decode cc pc = .ok (.ifCond .ne off, 3)) (ht : (pc : Int) + off = (tgt : Int))
    (kt : b = true → W p l e R s m args below meth c H locs cells slots Q (F0 m tgt ls rest)) (kf : b = false → W p l e R s m args below meth c H locs cells slots Q (F0 m (pc + 3) ls rest)) : W p l e R s m args below meth c H locs cells slots Q (F0 m pc ls (.int (bI b) :: rest)) :=
  lv_if_ne hexec hb hdg ht (fun h => kt (by cases b; exact absurd rfl h; rfl)) (fun h => kf (by cases b; rfl; exact absurd h (by decide)))
theorem nr_ifb_eq (hexec : p.tables.exec = Jvm.exec) (hb : c.code = cc) {b : Bool} {off : Int} {tgt : Nat} (hdg : decode cc pc = .ok (.ifCond .eq off, 3)) (ht : (pc : Int) + off = (tgt : Int))
    (kt : b = false → W p l e R s m args below meth c H locs cells slots Q (F0 m tgt ls rest)) (kf : b = true → W p l e R s m args below meth c H locs cells slots Q (F0 m (pc + 3) ls rest)) : W p l e R s m args below meth c H locs cells slots Q (F0 m pc ls (.int (bI b) :: rest)) :=
  lv_if_eq hexec hb hdg ht (fun h => kt (by cases b; rfl; exact absurd h (by decide))) (fun h => kf (by cases b; exact absurd rfl h; rfl))
end NRB
def xFit (a : Nat → Nat → Int32) (pl st ah fi : Nat) : Bool :=
  !decide ((a 3 st >>> (a 1 pl &&& 31)) &&& 1 = 0) && (if a 4 st = 1 then decide (pl = fi) || !decide (a 2 pl ≤ a 2 ah) else if a 4 st = 2 then decide (pl = fi) || !decide (a 2 ah ≤ a 2 pl) else if a 4 st = 3 then decide (a 2 pl = a 2 fi) else if a 4 st = 4 then !decide (a 2 pl < a 5 st) else true)
def xMay (a : Nat → Nat → Int32) (f : Nat → Int32) (fi pl nx : Nat) : Bool := (!decide (f 2 = 0) || decide (nx = pl + 1)) && !decide (f 3 < a 0 nx - a 0 fi)
def xSame (a : Nat → Nat → Int32) (w : Nat → Nat → Int32) (fi pl st nx : Nat) : Int32 := if a 6 st = 0 ∨ xFit a nx st pl fi = false then 0 else w nx st
def xNext (a : Nat → Nat → Int32) (w : Nat → Nat → Int32) (ms fi pl st nx : Nat) : Int32 := if st + 1 = ms ∨ xFit a nx (st + 1) pl fi = false then 0 else w nx (st + 1)
