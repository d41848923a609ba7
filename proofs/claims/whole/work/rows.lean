section
-- ===== PART A: goes FIRST, ahead of the names: the tables' words, and 'selects' of the private methods out of them =====
/-- a private method of a class that the tables say can be made, by its rows of tables_1 -/
def lw_okq (q : MethodName × Nat) : Prop := (q.1.cls ≠ "java/lang/invoke/MethodHandle" ∧ q.1.cls ≠ "java/lang/invoke/VarHandle") ∧ Cond.instantiable q.1.cls q.2 ∈ tables_1 ∧ Cond.privateMethod q.1 ∈ tables_1 ∧ Cond.instanceMethod q.1 ∈ tables_1
theorem lw_p0 : lw_okq (⟨"EventPatterns", "earliestTime", "()I"⟩, 16) := ⟨⟨by decide +kernel, by decide +kernel⟩, List.mem_of_getElem? (i := 11) (by decide +kernel), List.mem_of_getElem? (i := 89) (by decide +kernel), List.mem_of_getElem? (i := 90) (by decide +kernel)⟩
theorem lw_p1 : lw_okq (⟨"java/lang/Throwable", "fillInStackTrace", "(I)Ljava/lang/Throwable;"⟩, 6) := ⟨⟨by decide +kernel, by decide +kernel⟩, List.mem_of_getElem? (i := 133) (by decide +kernel), List.mem_of_getElem? (i := 131) (by decide +kernel), List.mem_of_getElem? (i := 132) (by decide +kernel)⟩
theorem lw_p2 : lw_okq (⟨"EventPatterns", "dropOldest", "()V"⟩, 16) := ⟨⟨by decide +kernel, by decide +kernel⟩, List.mem_of_getElem? (i := 11) (by decide +kernel), List.mem_of_getElem? (i := 180) (by decide +kernel), List.mem_of_getElem? (i := 181) (by decide +kernel)⟩
theorem lw_p3 : lw_okq (⟨"EventPatterns", "needSteps", "()V"⟩, 16) := ⟨⟨by decide +kernel, by decide +kernel⟩, List.mem_of_getElem? (i := 11) (by decide +kernel), List.mem_of_getElem? (i := 211) (by decide +kernel), List.mem_of_getElem? (i := 212) (by decide +kernel)⟩
theorem lw_p4 : lw_okq (⟨"EventPatterns", "countEnding", "(I)I"⟩, 16) := ⟨⟨by decide +kernel, by decide +kernel⟩, List.mem_of_getElem? (i := 11) (by decide +kernel), List.mem_of_getElem? (i := 231) (by decide +kernel), List.mem_of_getElem? (i := 232) (by decide +kernel)⟩
theorem lw_p5 : lw_okq (⟨"EventPatterns", "waysFrom", "(II)I"⟩, 16) := ⟨⟨by decide +kernel, by decide +kernel⟩, List.mem_of_getElem? (i := 11) (by decide +kernel), List.mem_of_getElem? (i := 235) (by decide +kernel), List.mem_of_getElem? (i := 236) (by decide +kernel)⟩
theorem lw_p6 : lw_okq (⟨"EventPatterns", "fits", "(IIII)Z"⟩, 16) := ⟨⟨by decide +kernel, by decide +kernel⟩, List.mem_of_getElem? (i := 11) (by decide +kernel), List.mem_of_getElem? (i := 239) (by decide +kernel), List.mem_of_getElem? (i := 240) (by decide +kernel)⟩
theorem lw_p7 : lw_okq (⟨"EventPatterns", "waysOn", "(IIII)I"⟩, 16) := ⟨⟨by decide +kernel, by decide +kernel⟩, List.mem_of_getElem? (i := 11) (by decide +kernel), List.mem_of_getElem? (i := 243) (by decide +kernel), List.mem_of_getElem? (i := 244) (by decide +kernel)⟩
theorem lw_p8 : lw_okq (⟨"EventPatterns", "isLastStep", "(I)Z"⟩, 16) := ⟨⟨by decide +kernel, by decide +kernel⟩, List.mem_of_getElem? (i := 11) (by decide +kernel), List.mem_of_getElem? (i := 247) (by decide +kernel), List.mem_of_getElem? (i := 248) (by decide +kernel)⟩
theorem lw_p9 : lw_okq (⟨"EventPatterns", "mayFollow", "(III)Z"⟩, 16) := ⟨⟨by decide +kernel, by decide +kernel⟩, List.mem_of_getElem? (i := 11) (by decide +kernel), List.mem_of_getElem? (i := 251) (by decide +kernel), List.mem_of_getElem? (i := 252) (by decide +kernel)⟩
theorem lw_p10 : lw_okq (⟨"EventPatterns", "waysBySameStep", "(IIII)I"⟩, 16) := ⟨⟨by decide +kernel, by decide +kernel⟩, List.mem_of_getElem? (i := 11) (by decide +kernel), List.mem_of_getElem? (i := 255) (by decide +kernel), List.mem_of_getElem? (i := 256) (by decide +kernel)⟩
theorem lw_p11 : lw_okq (⟨"EventPatterns", "waysByNextStep", "(IIII)I"⟩, 16) := ⟨⟨by decide +kernel, by decide +kernel⟩, List.mem_of_getElem? (i := 11) (by decide +kernel), List.mem_of_getElem? (i := 259) (by decide +kernel), List.mem_of_getElem? (i := 260) (by decide +kernel)⟩
theorem lw_p12 : lw_okq (⟨"EventPatterns", "needMatch", "(I)V"⟩, 16) := ⟨⟨by decide +kernel, by decide +kernel⟩, List.mem_of_getElem? (i := 11) (by decide +kernel), List.mem_of_getElem? (i := 278) (by decide +kernel), List.mem_of_getElem? (i := 279) (by decide +kernel)⟩
theorem lw_p13 : lw_okq (⟨"EventPatterns", "find", "(I)Z"⟩, 16) := ⟨⟨by decide +kernel, by decide +kernel⟩, List.mem_of_getElem? (i := 11) (by decide +kernel), List.mem_of_getElem? (i := 282) (by decide +kernel), List.mem_of_getElem? (i := 283) (by decide +kernel)⟩
theorem lw_p14 : lw_okq (⟨"EventPatterns", "walk", "(II)V"⟩, 16) := ⟨⟨by decide +kernel, by decide +kernel⟩, List.mem_of_getElem? (i := 11) (by decide +kernel), List.mem_of_getElem? (i := 286) (by decide +kernel), List.mem_of_getElem? (i := 287) (by decide +kernel)⟩
theorem lw_p15 : lw_okq (⟨"EventPatterns", "addFound", "(II)V"⟩, 16) := ⟨⟨by decide +kernel, by decide +kernel⟩, List.mem_of_getElem? (i := 11) (by decide +kernel), List.mem_of_getElem? (i := 290) (by decide +kernel), List.mem_of_getElem? (i := 291) (by decide +kernel)⟩
def lw_privs_1 : List (MethodName × Nat) := [(⟨"EventPatterns", "earliestTime", "()I"⟩, 16), (⟨"java/lang/Throwable", "fillInStackTrace", "(I)Ljava/lang/Throwable;"⟩, 6), (⟨"EventPatterns", "dropOldest", "()V"⟩, 16), (⟨"EventPatterns", "needSteps", "()V"⟩, 16), (⟨"EventPatterns", "countEnding", "(I)I"⟩, 16), (⟨"EventPatterns", "waysFrom", "(II)I"⟩, 16), (⟨"EventPatterns", "fits", "(IIII)Z"⟩, 16), (⟨"EventPatterns", "waysOn", "(IIII)I"⟩, 16), (⟨"EventPatterns", "isLastStep", "(I)Z"⟩, 16), (⟨"EventPatterns", "mayFollow", "(III)Z"⟩, 16), (⟨"EventPatterns", "waysBySameStep", "(IIII)I"⟩, 16), (⟨"EventPatterns", "waysByNextStep", "(IIII)I"⟩, 16), (⟨"EventPatterns", "needMatch", "(I)V"⟩, 16), (⟨"EventPatterns", "find", "(I)Z"⟩, 16), (⟨"EventPatterns", "walk", "(II)V"⟩, 16), (⟨"EventPatterns", "addFound", "(II)V"⟩, 16)]
theorem lw_r1 : ∀ q ∈ lw_privs_1, lw_okq q := List.forall_mem_cons.mpr ⟨lw_p0, List.forall_mem_cons.mpr ⟨lw_p1, List.forall_mem_cons.mpr ⟨lw_p2, List.forall_mem_cons.mpr ⟨lw_p3, List.forall_mem_cons.mpr ⟨lw_p4, List.forall_mem_cons.mpr ⟨lw_p5, List.forall_mem_cons.mpr ⟨lw_p6, List.forall_mem_cons.mpr ⟨lw_p7, List.forall_mem_cons.mpr ⟨lw_p8, List.forall_mem_cons.mpr ⟨lw_p9, List.forall_mem_cons.mpr ⟨lw_p10, List.forall_mem_cons.mpr ⟨lw_p11, List.forall_mem_cons.mpr ⟨lw_p12, List.forall_mem_cons.mpr ⟨lw_p13, List.forall_mem_cons.mpr ⟨lw_p14, List.forall_mem_cons.mpr ⟨lw_p15, fun _ h => absurd h List.not_mem_nil⟩⟩⟩⟩⟩⟩⟩⟩⟩⟩⟩⟩⟩⟩⟩⟩
theorem lw_p16 : lw_okq (⟨"EventPatternsModel", "refuse", "(ZZZ)Z"⟩, 16) := ⟨⟨by decide +kernel, by decide +kernel⟩, List.mem_of_getElem? (i := 319) (by decide +kernel), List.mem_of_getElem? (i := 386) (by decide +kernel), List.mem_of_getElem? (i := 387) (by decide +kernel)⟩
theorem lw_p17 : lw_okq (⟨"EventPatternsModel", "all", "(Z)I"⟩, 16) := ⟨⟨by decide +kernel, by decide +kernel⟩, List.mem_of_getElem? (i := 319) (by decide +kernel), List.mem_of_getElem? (i := 406) (by decide +kernel), List.mem_of_getElem? (i := 407) (by decide +kernel)⟩
theorem lw_p18 : lw_okq (⟨"EventPatternsModel", "from", "()I"⟩, 16) := ⟨⟨by decide +kernel, by decide +kernel⟩, List.mem_of_getElem? (i := 319) (by decide +kernel), List.mem_of_getElem? (i := 410) (by decide +kernel), List.mem_of_getElem? (i := 411) (by decide +kernel)⟩
theorem lw_p19 : lw_okq (⟨"EventPatternsModel", "fits", "(IIII)Z"⟩, 16) := ⟨⟨by decide +kernel, by decide +kernel⟩, List.mem_of_getElem? (i := 319) (by decide +kernel), List.mem_of_getElem? (i := 414) (by decide +kernel), List.mem_of_getElem? (i := 415) (by decide +kernel)⟩
theorem lw_p20 : lw_okq (⟨"EventPatternsModel", "waysFrom", "(IIIZ)I"⟩, 16) := ⟨⟨by decide +kernel, by decide +kernel⟩, List.mem_of_getElem? (i := 319) (by decide +kernel), List.mem_of_getElem? (i := 418) (by decide +kernel), List.mem_of_getElem? (i := 419) (by decide +kernel)⟩
theorem lw_p21 : lw_okq (⟨"EventPatternsModel", "find", "(I)Z"⟩, 16) := ⟨⟨by decide +kernel, by decide +kernel⟩, List.mem_of_getElem? (i := 319) (by decide +kernel), List.mem_of_getElem? (i := 430) (by decide +kernel), List.mem_of_getElem? (i := 431) (by decide +kernel)⟩
theorem lw_p22 : lw_okq (⟨"EventPatternsModel", "notes", "(II)V"⟩, 16) := ⟨⟨by decide +kernel, by decide +kernel⟩, List.mem_of_getElem? (i := 319) (by decide +kernel), List.mem_of_getElem? (i := 434) (by decide +kernel), List.mem_of_getElem? (i := 435) (by decide +kernel)⟩
def lw_privs_2 : List (MethodName × Nat) := [(⟨"EventPatternsModel", "refuse", "(ZZZ)Z"⟩, 16), (⟨"EventPatternsModel", "all", "(Z)I"⟩, 16), (⟨"EventPatternsModel", "from", "()I"⟩, 16), (⟨"EventPatternsModel", "fits", "(IIII)Z"⟩, 16), (⟨"EventPatternsModel", "waysFrom", "(IIIZ)I"⟩, 16), (⟨"EventPatternsModel", "find", "(I)Z"⟩, 16), (⟨"EventPatternsModel", "notes", "(II)V"⟩, 16)]
theorem lw_r2 : ∀ q ∈ lw_privs_2, lw_okq q := List.forall_mem_cons.mpr ⟨lw_p16, List.forall_mem_cons.mpr ⟨lw_p17, List.forall_mem_cons.mpr ⟨lw_p18, List.forall_mem_cons.mpr ⟨lw_p19, List.forall_mem_cons.mpr ⟨lw_p20, List.forall_mem_cons.mpr ⟨lw_p21, List.forall_mem_cons.mpr ⟨lw_p22, fun _ h => absurd h List.not_mem_nil⟩⟩⟩⟩⟩⟩⟩
def lw_privs : List (MethodName × Nat) := lw_privs_1 ++ (lw_privs_2)
def lw_tbl : List Cond := k2_sels lw_privs ++ tables_1
theorem lw_privs_ok : ∀ q ∈ lw_privs, lw_okq q := by
  show ∀ q ∈ lw_privs_1 ++ (lw_privs_2), lw_okq q
  exact List.forall_mem_append.mpr ⟨lw_r1, lw_r2⟩
end
section
def va_AOA (ty : FieldType) (U : State) : Prop := (Cond.arrayOver (.array ty)).before #[] U = true
theorem va_AOA.use {ty : FieldType} {A : Array Value} {U : State} (h : va_AOA ty U) : (Cond.arrayOver (.array ty)).before A U = true := h
/-! ===== BEGIN words of one list among another's, by their places ===== -/
theorem goodIn_r {big : List Cond} (ws : List Cond) (ps : List Nat) (hp : ws = ps.filterMap (fun i => big[i]?)) (h : ws.all goodWord = true) : GoodIn big ws := by
  intro w hw
  have h1 := List.all_eq_true.mp h w hw
  rw [hp] at hw
  obtain ⟨i, -, hi⟩ := List.mem_filterMap.mp hw
  have hm : w ∈ big := by first | exact List.mem_of_getElem? hi | exact List.getElem?_mem hi
  exact ⟨hm, good_of_word h1⟩
theorem goodIn_app {big a b : List Cond} (ha : GoodIn big a) (hb : GoodIn big b) : GoodIn big (a ++ b) := fun w h => (List.mem_append.mp h).elim (ha w) (hb w)
theorem goodIn_ca {big a b : List Cond} {c : Cond} (ha : GoodIn big (c :: a)) (hb : GoodIn big b) : GoodIn big (c :: (a ++ b)) := fun w h => (List.mem_cons.mp h).elim (fun e => ha w (List.mem_cons.mpr (Or.inl e))) (fun h => (List.mem_append.mp h).elim (fun h => ha w (List.mem_cons.mpr (Or.inr h))) (hb w))
theorem goodIn_sub {big ws : List Cond} (hm : ∀ w ∈ ws, w ∈ big) (h : ws.all goodWord = true) : GoodIn big ws := fun w hw => ⟨hm w hw, good_of_word (List.all_eq_true.mp h w hw)⟩
/-! ===== END ===== -/

/-! ===== BEGIN new T[n][m]: the outer array a place, the inner ones among the pooled ===== -/
/-- f, but v at every address of l -/
def vr_up {α : Type} (f : Nat → α) (l : List Nat) (v : α) : Nat → α := fun a => if a ∈ l then v else f a
theorem vr_up_in {α : Type} {f : Nat → α} {l : List Nat} {v : α} {a : Nat} (h : a ∈ l) : vr_up f l v a = v := if_pos h
theorem vr_up_ne {α : Type} {f : Nat → α} {l : List Nat} {v : α} {a : Nat} (h : a ∉ l) : vr_up f l v a = f a := if_neg h
theorem vr_rows {L l : List Nat} {f : Nat → va_E} {e : va_E} (h : ∀ a, a ∈ l → a ∉ L) : va_pl L f ++ l.map (fun a => (a, e)) = va_pl (L ++ l) (vr_up f l e) := by
  unfold va_pl
  rw [List.map_append]
  congr 1
  · apply List.map_congr_left
    intro a ha
    rw [vr_up_ne (fun q => h a q ha)]
  · apply List.map_congr_left
    intro a ha
    rw [vr_up_in ha]
theorem vr_lay {X rows : va_W} {x : Nat × va_E} {pl : va_W} {D : va_G} {cl : List vw_C} {H : Heap} (hP : va_P D cl (((X ++ pl) ++ [x]) ++ rows) H) : va_P D cl ((X ++ [x]) ++ (pl ++ rows)) H := by
  rw [List.append_assoc (X ++ pl)] at hP
  have h := va_P.swap hP
  rw [← List.append_assoc X] at h
  have h2 := va_P.swap h
  rw [List.append_assoc (X ++ [x])] at h2
  exact h2
theorem vr_layD {X rows : va_W} {x : Nat × va_E} {pl : va_W} {A : Nat → Prop} (hD : va_D A (((X ++ pl) ++ [x]) ++ rows)) : va_D A ((X ++ [x]) ++ (pl ++ rows)) := by
  rw [List.append_assoc (X ++ pl)] at hD
  have h := va_D.swap hD
  rw [← List.append_assoc X] at h
  have h2 := va_D.swap h
  rw [List.append_assoc (X ++ [x])] at h2
  exact h2
theorem vr_outer (c : ClassId) (N h0 : Nat) : ∀ i : Nat, Jvm.Free.Multi.outerC c N h0 i = arrV c N (fun j => va_rf (if j < i then some (h0 + 1 + j) else none))
  | 0 => by
    show ({ cls := c, slots := Array.replicate N .null, vm := .none } : Cell) = _
    rw [arrV_new]
    refine congrArg (arrV c N) (funext fun j => ?_)
    simp [va_rf]
  | i + 1 => by
    show (Jvm.Free.Multi.outerC c N h0 i).setSlot i (.ref (h0 + 1 + i)) = _
    rw [vr_outer c N h0 i, arrV_store]
    refine congrArg (arrV c N) (funext fun j => ?_)
    by_cases e : j = i
    · subst e
      simp [updV, va_rf]
    · by_cases h : j < i
      · simp [updV, e, h, Nat.lt_succ_of_lt h]
      · simp [updV, e, h, show ¬ j < i + 1 by omega]
section VGM
variable {p : Program} {l : Launch} {e : Env} {R : Room} {s : State} {m : MethodId} {args : Array Value} {below : List Frame} {meth : Method} {c : Code} {H : Heap} {locs : List Loc} {cells slots : Nat} {Q : State → Prop}
variable {cc : ByteArray} {pc : Nat} {ls : Array Slot} {rest : List Value} {D : va_G} {cl : List vw_C} {A : Nat → Prop} {a : Nat} {tys : List (ClassId × FieldType)} {ws : va_W} {H0 : Heap}
theorem va_mna {X : va_W} {L : List Nat} {f : Nat → va_E} {cc : ByteArray} (hexec : p.tables.exec = Jvm.exec) (hb : c.code = cc) {own : String} {index : Nat} {ty : FieldType} {cy : ClassId} (hown : s.vm.findClass own = some m.cls) (hclink : (Cond.classLink own index ("[" ++ (FieldType.array ty).toString)).before args s = true) (hover : va_AOA ty s) (harr : (Cond.arrayClass ty).before args s = true) (hcy : s.vm.findClass (FieldType.array ty).toString = some cy)
    (hK : va_K D cl tys s) (hP : va_P D cl (X ++ va_pl L f) H) (hD : va_D A (X ++ va_pl L f)) (hS : va_S A H0 H locs) (hA : ∀ q, H0.size ≤ q → A q) {n k : Int32} {N' K' : Nat} {z : vp_A} (hn : ¬ n < 0) (hk : ¬ k < 0) (hN : n.toNatClampNeg = N') (hM : k.toNatClampNeg = K')
    (hb1 : N' * 4 ≤ 536870912) (hb2 : K' * componentBytes ty ≤ 536870912) (hb3 : K' ≤ 536870912) (hdf : fits ty (defaultValue ty) = true) (hdd : (defaultValue ty).isDefault = true) (hcells : cells + (1 + N') ≤ R.cells) (hslots : slots + (N' + N' * K') ≤ R.slots) (hz : ∀ c : ClassId, Jvm.Free.Multi.innerC c K' (defaultValue ty) = vp_cell c z) (hdg : decode cc pc = .ok (.multianewarray index 2, 4))
    (kk : ∀ (q : Nat) (r : Nat → Nat) (cA : ClassId) (H1 : Heap), (∀ i j : Nat, i < N' → j < N' → r i = r j → i = j) → (∀ i : Nat, i < N' → r i ∉ L) → va_K D cl (tys ++ [(cA, .array ty)]) s →
      va_P D cl ((X ++ [(q, .inl (cA, N', .inr (.inr (.inr (.inr (fun i => if i < N' then some (r i) else none))))))]) ++ va_pl (L ++ (List.range N').map r) (vr_up f ((List.range N').map r) (.inl (cy, z)))) H1 → va_D A ((X ++ [(q, .inl (cA, N', .inr (.inr (.inr (.inr (fun i => if i < N' then some (r i) else none))))))]) ++ va_pl (L ++ (List.range N').map r) (vr_up f ((List.range N').map r) (.inl (cy, z)))) → va_S A H0 H1 locs →
      W p l e R s m args below meth c H1 locs (cells + 1 + N') (slots + N' + N' * K') Q (F0 m (pc + 4) ls (.ref q :: rest))) : W p l e R s m args below meth c H locs cells slots Q (F0 m pc ls (.int k :: .int n :: rest)) := by
  subst hN
  subst hM
  intro T hT Xs
  obtain ⟨vm₁, cA, comp, -, fA, fC, hO, -, X', step⟩ := Xs.multianewarray2F hexec hown hclink (va_AOA.use hover) harr (g := F0 m pc ls (.int k :: .int n :: rest)) rfl (by rw [hb]; exact hdg) rfl hn hk hb1 hb2 hb3 hdf hdd hcells hslots
  have ec : some cy = some comp := hcy.symm.trans fC
  cases ec
  generalize hF : Jvm.Free.Multi.fill (T.setVm vm₁) cA cy n.toNatClampNeg k.toNatClampNeg (defaultValue ty) n.toNatClampNeg = F at X' step
  have hTh : (T.setVm vm₁).heap = H := hT
  obtain ⟨f1, f2, -, -⟩ := Jvm.Free.Multi.fill_facts (T.setVm vm₁) cA cy n.toNatClampNeg k.toNatClampNeg (defaultValue ty) n.toNatClampNeg
  rw [hF, hTh] at f1 f2
  have hold : ∀ x : Nat, x < H.size → F.heap[x]? = H[x]? := fun x hx => by
    have := Jvm.Free.Multi.fill_old (T.setVm vm₁) cA cy n.toNatClampNeg k.toNatClampNeg (defaultValue ty) (a := x) (by rw [hTh]; exact hx) n.toNatClampNeg
    rw [hF, hTh] at this
    exact this
  have hrow : ∀ j : Nat, j < n.toNatClampNeg → F.heap[H.size + 1 + j]? = some (vp_cell cy z) := fun j hj => by
    have := Jvm.Free.Multi.fill_inner (T.setVm vm₁) cA cy n.toNatClampNeg k.toNatClampNeg (defaultValue ty) n.toNatClampNeg j hj
    rw [hF, hTh, hz] at this
    exact this
  have hout : Jvm.Free.Multi.outerC cA n.toNatClampNeg H.size n.toNatClampNeg = vp_cell cA (n.toNatClampNeg, .inr (.inr (.inr (.inr (fun i => if i < n.toNatClampNeg then some (H.size + 1 + i) else none))))) := by
    rw [vp_cell_q]
    exact vr_outer cA n.toNatClampNeg H.size n.toNatClampNeg
  rw [hout] at f2
  have hlt : ∀ a, a ∈ L → a < H.size := fun a ha => by
    obtain ⟨k9, hk9⟩ := va_pl_get (X := X) (f := f) ha
    exact (hP k9 _ hk9).lt
  have hnl : ∀ i : Nat, i < n.toNatClampNeg → H.size + 1 + i ∉ L := fun i _ h => by
    have := hlt _ h
    omega
  have hnm : ∀ a, a ∈ (List.range n.toNatClampNeg).map (fun i => H.size + 1 + i) → a ∉ L := fun a ha h => by
    obtain ⟨i, -, rfl⟩ := List.mem_map.mp ha
    have := hlt _ h
    omega
  have hP0 : va_P D cl (X ++ va_pl L f) F.heap := hP.kept (fun k9 x hx => hold x.1 ((hP k9 x hx).lt))
  have hP1 : va_P D cl ((X ++ va_pl L f) ++ [(H.size, .inl (cA, n.toNatClampNeg, .inr (.inr (.inr (.inr (fun i => if i < n.toNatClampNeg then some (H.size + 1 + i) else none))))))]) F.heap := hP0.app (fun k9 x hx => by
    have h0 : k9 < 1 := (List.getElem?_eq_some_iff.mp hx).1
    rw [show k9 = 0 by omega] at hx
    cases hx
    exact f2)
  have hP2 : va_P D cl (((X ++ va_pl L f) ++ [(H.size, .inl (cA, n.toNatClampNeg, .inr (.inr (.inr (.inr (fun i => if i < n.toNatClampNeg then some (H.size + 1 + i) else none))))))]) ++ ((List.range n.toNatClampNeg).map (fun i => H.size + 1 + i)).map (fun a => (a, .inl (cy, z)))) F.heap := hP1.app (fun k9 x hx => by
    obtain ⟨a, ha, rfl⟩ := List.mem_map.mp (List.mem_of_getElem? hx)
    obtain ⟨i, hi, rfl⟩ := List.mem_map.mp ha
    exact hrow i (List.mem_range.mp hi))
  have hD2 : va_D A (((X ++ va_pl L f) ++ [(H.size, .inl (cA, n.toNatClampNeg, .inr (.inr (.inr (.inr (fun i => if i < n.toNatClampNeg then some (H.size + 1 + i) else none))))))]) ++ ((List.range n.toNatClampNeg).map (fun i => H.size + 1 + i)).map (fun a => (a, .inl (cy, z)))) := by
    have hD1 := hD.push (e := .inl (cA, n.toNatClampNeg, .inr (.inr (.inr (.inr (fun i => if i < n.toNatClampNeg then some (H.size + 1 + i) else none)))))) hP rfl (hA _ hS.1)
    generalize hW1 : (X ++ va_pl L f) ++ [(H.size, .inl (cA, n.toNatClampNeg, .inr (.inr (.inr (.inr (fun i => if i < n.toNatClampNeg then some (H.size + 1 + i) else none))))))] = W1 at hD1 hP1 ⊢
    have hle : ∀ (k9 : Nat) (x : Nat × va_E), W1[k9]? = some x → x.1 ≤ H.size := fun k9 x hx => by
      rw [← hW1] at hx
      by_cases hl : k9 < (X ++ va_pl L f).length
      · rw [List.getElem?_append_left hl] at hx
        exact Nat.le_of_lt ((hP k9 x hx).lt)
      · rw [List.getElem?_append_right (by omega)] at hx
        have h0 : k9 - (X ++ va_pl L f).length < 1 := (List.getElem?_eq_some_iff.mp hx).1
        rw [show k9 - (X ++ va_pl L f).length = 0 by omega] at hx
        cases hx
        exact Nat.le_refl _
    have hr : ∀ (k9 : Nat) (x : Nat × va_E), (((List.range n.toNatClampNeg).map (fun i => H.size + 1 + i)).map (fun a => ((a, .inl (cy, z)) : Nat × va_E)))[k9]? = some x → x.1 = H.size + 1 + k9 := fun k9 x hx => by
      rw [List.getElem?_map, List.getElem?_map] at hx
      by_cases h9 : k9 < n.toNatClampNeg
      · rw [List.getElem?_range h9] at hx
        cases hx
        rfl
      · have hn0 : (List.range n.toNatClampNeg)[k9]? = none := List.getElem?_eq_none (by rw [List.length_range]; omega)
        rw [hn0] at hx
        cases hx
    refine ⟨fun i j x y hi hj hxy => ?_, fun k9 x hx => ?_⟩
    · by_cases h1 : i < W1.length <;> by_cases h2 : j < W1.length
      · rw [List.getElem?_append_left h1] at hi
        rw [List.getElem?_append_left h2] at hj
        exact hD1.1 i j x y hi hj hxy
      · rw [List.getElem?_append_left h1] at hi
        rw [List.getElem?_append_right (by omega)] at hj
        have := hle _ _ hi
        have := hr _ _ hj
        omega
      · rw [List.getElem?_append_right (by omega)] at hi
        rw [List.getElem?_append_left h2] at hj
        have := hle _ _ hj
        have := hr _ _ hi
        omega
      · rw [List.getElem?_append_right (by omega)] at hi hj
        have := hr _ _ hi
        have := hr _ _ hj
        omega
    · by_cases h1 : k9 < W1.length
      · rw [List.getElem?_append_left h1] at hx
        exact hD1.2 k9 x hx
      · rw [List.getElem?_append_right (by omega)] at hx
        have := hr _ _ hx
        exact hA _ (by have := hS.1; omega)
  have hAr : ArrOfT s cA (.array ty) := fun N9 z9 => by
    obtain ⟨-, k9, hk9, cm9, hkk9⟩ := (hO 0 0 0).1
    exact ⟨(fun q hq => by cases hq), k9, hk9, cm9, hkk9⟩
  have hK2 : va_K D cl (tys ++ [(cA, .array ty)]) s := ⟨hK.1, fun k9 x hx => by
    by_cases hl : k9 < tys.length
    · rw [List.getElem?_append_left hl] at hx
      exact hK.2 k9 x hx
    · rw [List.getElem?_append_right (by omega)] at hx
      have h0 : k9 - tys.length < 1 := (List.getElem?_eq_some_iff.mp hx).1
      rw [show k9 - tys.length = 0 by omega] at hx
      cases hx
      exact ⟨hAr, fA⟩⟩
  obtain ⟨t, a1, b1⟩ := kk H.size (fun i => H.size + 1 + i) cA F.heap (fun i j _ _ h => by have h9 : H.size + 1 + i = H.size + 1 + j := h; omega) hnl hK2 (by rw [← vr_rows hnm]; exact vr_lay hP2) (by rw [← vr_rows hnm]; exact vr_layD hD2) ⟨by rw [f1]; have := hS.1; omega, fun x h1 h2 => (hold x (Nat.lt_of_lt_of_le h1 hS.1)).trans (hS.2.1 x h1 h2), hS.2.2⟩ F rfl X'
  refine ⟨t, step t ?_, b1⟩
  have e : T.heap.size = H.size := by rw [hT]
  rw [e]
  exact a1
end VGM
/-! ===== END ===== -/

/-! ===== BEGIN exceptions that leave a method, and their catching by the caller (launches without stack traces) ===== -/
section VXA
/-! The laws vx_back, vx_callV, vx_callS, vx_callSW, vx_throw0, vx_throwS follow proofs of the library, with one case more: JvmDerived/Free/Laws.lean (Back.of_free), Shelf42/LK1.lean (callV, callS), Shelf/KitTraced.lean (throwNew0V, throwNewS). -/
/-- where a method has thrown q: the class by its name, the cell, what was written, the world -/
def vx_T (XC : String → State → State → Prop) (st : State) (q : Addr) (t : State) (mc ms : Nat) (free : Addr → Prop) : Prop :=
  ∃ (E : String) (ce : Cell) (L : List Loc), XC E st t ∧ t.heap[q]? = some ce ∧ ce.vm = .none ∧ st.vm.findClass E = some ce.cls ∧ st.WarmedH t.vm ∧ st.sameButNew ({ t with vm := st.vm } : State) L mc ms ∧ ∀ z ∈ L, free z.base
def vx_Q (Qc : Array Value → State → Outcome → State → Prop) (XC : String → State → State → Prop) (mc ms : Nat) (free : Addr → Prop) : Array Value → State → Outcome → State → Prop := fun a st o t =>
  (Qc a st o t ∧ ∃ L, FrameEnd st o t L mc ms ∧ ∀ q ∈ L, free q.base) ∨ ∃ q, o = .threw q ∧ vx_T XC st q t mc ms free
/-- a callee that returns or throws -/
def vx_Met (l : Launch) (y : MethodName) (ws : List Cond) (rm : Room) (Pc : Array Value → State → Prop) (Qc : Array Value → State → Outcome → State → Prop) (XC : String → State → State → Prop) (mc ms : Nat) (free : Addr → Prop) : Prop :=
  MetFree l y (headSpec ws rm) Pc (fun _ _ _ _ _ => True) (vx_Q Qc XC mc ms free)
def vx_Post (XC : String → State → State → Prop) (mc ms : Nat) (free : Addr → Prop) : Pt → Array Value → Addr → Pt → Prop := fun A a q B =>
  ∃ (g : JFrame) (mk : MethodId) (t : State) (L : List Loc) (E : String) (ce : Cell), B.U.heap = t.heap ∧ B.U.vm = t.vm ∧ XC E (A.U.calling g mk a) t ∧ t.heap[q]? = some ce ∧ ce.vm = .none ∧ A.U.vm.findClass E = some ce.cls ∧ B.locs = A.locs ++ L ∧ (∀ z ∈ L, free z.base) ∧ B.cells = A.cells + mc ∧ B.slots = A.slots + ms
def vx_Back (l : Launch) (R : Room) (p : Program) (e : Env) (below : List Frame) (s : State) (sargs : Array Value) (y : MethodName) (len W9 : Nat)
    (Pre : Pt → Array Value → Prop) (Post : Pt → Array Value → Option Value → Pt → Prop) (PostX : Pt → Array Value → Addr → Pt → Prop) : Prop :=
  ∀ (m : MethodId) (meth : Method) (c : Code) (A : Pt) (g : JFrame) (ig : Instr) (mk : MethodId) (a : Array Value),
    Stand p l e R s m sargs below meth c A.U A.locs A.cells A.slots → g.method = m → g.locals.size = c.maxLocals → decode c.code g.pc = .ok (ig, len) →
    2 * g.monitorRoom + (g.stack.map fun v => v.category).sum ≤ W9 → A.U.methodNamed? y = some mk → Pre A a →
    (∃ (v : Option Value) (B : Pt), Stand p l e R s m sargs below meth c B.U B.locs B.cells B.slots ∧ Post A a v B ∧
      Steps p.tables e below (doInvoke e (A.U.setTop g) [] mk a).1 (B.U.setTop { g with pc := g.pc + len, stack := v.toList ++ g.stack })) ∨
    (∃ (q : Addr) (B : Pt), Stand p l e R s m sargs below meth c B.U B.locs B.cells B.slots ∧ PostX A a q B ∧
      Steps p.tables e below (doInvoke e (A.U.setTop g) [] mk a).1 ((B.U.setTop g).pushFrame (.throwing q)))
section Payer
variable {l : Launch} {R : Room} {p : Program} {e : Env} {below : List Frame} {s : State} {sargs : Array Value} {y : MethodName} {len W9 : Nat}
theorem vx_back {ws : List Cond} {rm : Room} {Pc : Array Value → State → Prop} {Qc : Array Value → State → Outcome → State → Prop} {XC : String → State → State → Prop} {mc ms : Nat} {free : Addr → Prop} {bytes : ByteArray} {maxL : Nat} {ret : Option FieldType}
    (hM : vx_Met l y ws rm Pc Qc XC mc ms free) (hblind : FrameBlind Pc) (hrc : rm.cells = mc) (hrs : rm.slots = ms)
    (hframes : rm.frames + 1 ≤ R.frames) (hlocals : W9 + (maxL + 11) + rm.locals ≤ R.locals)
    (hws : ∀ w ∈ ws, ∀ a' U, s.WarmedH U.vm → w.before a' U = true) (hcode : Cond.code y bytes maxL ret ∈ ws) (hinit : ∀ a' U, s.WarmedH U.vm → (Cond.initialized y.cls).before a' U = true) :
    vx_Back l R p e below s sargs y len W9 (PreOf R mc ms Pc) (PostOf Qc mc ms free) (vx_Post XC mc ms free) := by
  intro m meth c A g ig mk a X hg hsize hdg hW hn hp
  have h1 : (headSpec ws rm).pre.before a A.U = true := atoms_intro fun w hw => hws w hw _ _ X.warmed
  have h2 : (Cond.code y bytes maxL ret).before a A.U = true := hws _ hcode _ _ X.warmed
  have h3 : (Cond.initialized y.cls).before a A.U = true := hinit _ _ X.warmed
  have h4 : A.cells + (headSpec ws rm).room.cells ≤ R.cells := by rw [show (headSpec ws rm).room.cells = mc from hrc]; exact hp.1
  have h5 : A.slots + (headSpec ws rm).room.slots ≤ R.slots := by rw [show (headSpec ws rm).room.slots = ms from hrs]; exact hp.2.1
  have hPc : Pc a (A.U.calling g mk a) := hblind _ _ _ _ hp.2.2
  obtain ⟨U, Ls, c0, s0⟩ := A
  dsimp only [Pt.U, Pt.locs, Pt.cells, Pt.slots] at h1 h2 h3 h4 h5 X hn hPc ⊢
  obtain ⟨methY, cY, hmY, hcY, -, hlY, -, -, -, -⟩ := Cond.code_spec hn h2
  obtain ⟨kY, hkY, -⟩ := className_of_methodNamed hn
  have hinitY : kY.init = .initialized := Cond.initialized_spec (findClass_of_methodNamed hn) hkY h3
  have h : At U g.method c below := by rw [hg]; exact X.here
  have hlocals9 : W9 + (maxL + 11) + (headSpec ws rm).room.locals ≤ R.locals := hlocals
  have happ : (headSpec ws rm).appliesLoose y e.platform (U.calling g mk a) = true :=
    Spec.appliesLoose_calling (g := g) h hdg hn hkY hinitY
      (X.room_calling (g := g) (R' := (headSpec ws rm).room) hsize hmY hcY hframes (by rw [hlY]; omega) h4 h5) h1
  obtain ⟨mid, hmid⟩ := h.above
  have hfr : (U.setTop g).frames = (.java g :: mid) ++ below := by rw [State.frames_setTop' g h.top, hmid]; rfl
  obtain ⟨o, s₂, hsteps, -, hend, hq⟩ := Steps.callFree hM p X.admits X.cas X.clock (acts := []) hfr happ hPc trivial
  have hq' : vx_Q Qc XC mc ms free a (U.calling g mk a) o s₂ := hq
  rw [State.frames_setTop' g h.top] at hend
  obtain ⟨g₀, hg0⟩ := Option.isSome_iff_exists.mp h.top
  obtain ⟨r, hr⟩ := State.topJava?_eq_some.mp hg0
  have hr' : (({ U with heap := s₂.heap, slotsUsed := s₂.slotsUsed } : State).setVm s₂.vm).frames = .java g₀ :: r := hr
  rcases hq' with ⟨hqc, L, hfe, hL⟩ | ⟨q, rfl, E, ce, L, hx, hce, hcv, hcl, hW₂, hsm, hL⟩
  · obtain ⟨⟨v, rfl⟩, hW₂, e2, q2, q3, q4, q5, q6⟩ := id hfe
    have e3 : s₂ = ({ (U.calling g mk a).setFrames s₂.frames with heap := s₂.heap, slotsUsed := s₂.slotsUsed } : State).setVm s₂.vm := by
      have : s₂ = ({ s₂ with vm := (U.calling g mk a).vm } : State).setVm s₂.vm := rfl
      rw [e2] at this
      exact this
    obtain ⟨c₂, i₂, len₂, hc₂, hd₂, hf₂⟩ := hend
    have hW' : U.WarmedH s₂.vm := hW₂
    have hcc : c₂ = c := by
      have h1 : s₂.code? g.method = U.code? g.method := by
        rw [State.code?_eq, State.code?_eq, hW'.alike.method?]
      exact Option.some.inj (hc₂.symm.trans (h1.trans h.code))
    subst hcc
    have hlen : len₂ = len := by rw [hdg] at hd₂; cases hd₂; rfl
    subst hlen
    have hs₂ : s₂ = (({ U with heap := s₂.heap, slotsUsed := s₂.slotsUsed } : State).setVm s₂.vm).setTop { g with pc := g.pc + len₂, stack := v.toList ++ g.stack } := by
      refine e3.trans ?_
      rw [hf₂, State.calling_eq h.top, State.setFrames_setFrames, State.setTop_of_frames _ hr', hr]
      rfl
    have hsame : U.sameButNew ({ U with heap := s₂.heap, slotsUsed := s₂.slotsUsed } : State) L mc ms := by
      refine ⟨?_, q2, q3, q4, q5, q6⟩
      obtain ⟨t, ht, -⟩ := State.frames_cons hr
      show ({ U with heap := s₂.heap, slotsUsed := s₂.slotsUsed } : State) = { U.setFrames U.frames with heap := s₂.heap, slotsUsed := s₂.slotsUsed }
      rw [State.setFrames_self ht]
    subst hg
    refine Or.inl ⟨v, ⟨(({ U with heap := s₂.heap, slotsUsed := s₂.slotsUsed } : State).setVm s₂.vm), Ls ++ L, c0 + mc, s0 + ms⟩,
      ⟨X.admits, X.cas, X.clock, X.frames, X.room, X.hears, X.method, X.code, (X.here.setHeapUsed s₂.heap s₂.slotsUsed).setVm hW'.alike, X.tail, State.WarmedH.trans X.warmed hW', X.limits, X.bytes, X.same.trans (hsame.setVm s.vm)⟩,
      ⟨g, mk, s₂, L, rfl, rfl, hqc, rfl, hL, rfl, rfl⟩, ?_⟩
    show Steps p.tables e below _ ((({ U with heap := s₂.heap, slotsUsed := s₂.slotsUsed } : State).setVm s₂.vm).setTop { g with pc := g.pc + len₂, stack := v.toList ++ g.stack })
    rw [← hs₂]
    exact hsteps
  · obtain ⟨e2, q2, q3, q4, q5, q6⟩ := id hsm
    have e3 : s₂ = ({ (U.calling g mk a).setFrames s₂.frames with heap := s₂.heap, slotsUsed := s₂.slotsUsed } : State).setVm s₂.vm := by
      have : s₂ = ({ s₂ with vm := (U.calling g mk a).vm } : State).setVm s₂.vm := rfl
      rw [e2] at this
      exact this
    have hf₂ : s₂.frames = .throwing q :: .java g :: U.frames.tail := hend
    have hW' : U.WarmedH s₂.vm := hW₂
    have hs₂ : s₂ = ((({ U with heap := s₂.heap, slotsUsed := s₂.slotsUsed } : State).setVm s₂.vm).setTop g).pushFrame (.throwing q) := by
      refine e3.trans ?_
      rw [hf₂, State.calling_eq h.top, State.setFrames_setFrames, State.pushFrame, State.frames_setTop _ hr', State.setTop_of_frames _ hr', State.setFrames_setFrames, hr]
      rfl
    have hsame : U.sameButNew ({ U with heap := s₂.heap, slotsUsed := s₂.slotsUsed } : State) L mc ms := by
      refine ⟨?_, q2, q3, q4, q5, q6⟩
      obtain ⟨t, ht, -⟩ := State.frames_cons hr
      show ({ U with heap := s₂.heap, slotsUsed := s₂.slotsUsed } : State) = { U.setFrames U.frames with heap := s₂.heap, slotsUsed := s₂.slotsUsed }
      rw [State.setFrames_self ht]
    subst hg
    refine Or.inr ⟨q, ⟨(({ U with heap := s₂.heap, slotsUsed := s₂.slotsUsed } : State).setVm s₂.vm), Ls ++ L, c0 + mc, s0 + ms⟩,
      ⟨X.admits, X.cas, X.clock, X.frames, X.room, X.hears, X.method, X.code, (X.here.setHeapUsed s₂.heap s₂.slotsUsed).setVm hW'.alike, X.tail, State.WarmedH.trans X.warmed hW', X.limits, X.bytes, X.same.trans (hsame.setVm s.vm)⟩,
      ⟨g, mk, s₂, L, E, ce, rfl, rfl, hx, hce, hcv, hcl, rfl, hL, rfl, rfl⟩, ?_⟩
    show Steps p.tables e below _ (((({ U with heap := s₂.heap, slotsUsed := s₂.slotsUsed } : State).setVm s₂.vm).setTop g).pushFrame (.throwing q))
    rw [← hs₂]
    exact hsteps
end Payer
section Calls
variable {p : Program} {l : Launch} {e : Env} {R : Room} {s : State} {m : MethodId} {args : Array Value} {below : List Frame} {meth : Method} {c : Code} {T : State} {locs : List Loc} {cells slots : Nat}
theorem vx_callV (X : Stand p l e R s m args below meth c T locs cells slots) (hexec : p.tables.exec = Jvm.exec) {own C : String} {index : Nat} {y : MethodName} {bytes : ByteArray} {maxL : Nat} {ret : Option FieldType}
    (hown : s.vm.findClass own = some m.cls) (hlink : (Cond.methodLink own index y).before args s = true) (hinst : (Cond.instanceMethod y).before args s = true) (hsel : (Cond.selects C y y).before args s = true)
    (hcode : (Cond.code y bytes maxL ret).before args s = true) (hy : y.cls ≠ "java/lang/invoke/MethodHandle" ∧ y.cls ≠ "java/lang/invoke/VarHandle")
    {W9 : Nat} {Pre : Pt → Array Value → Prop} {Post : Pt → Array Value → Option Value → Pt → Prop} {PostX : Pt → Array Value → Addr → Pt → Prop} (hK : vx_Back l R p e below s args y 3 W9 Pre Post PostX)
    {b : Addr} {cellB : Cell} (hcell : T.heap[b]? = some cellB) (hobj : cellB.vm.isStatics = false) (hcls : s.vm.findClass C = some cellB.cls)
    {g : JFrame} (hg : g.method = m) (hsize : g.locals.size = c.maxLocals) {argsL rest : List Value} (hlen : ∀ sig, parseMethodDescriptor y.desc = some sig → argsL.length = sig.parameters.length)
    (hstack : g.stack = argsL.reverse ++ .ref b :: rest) (hW : 2 * g.monitorRoom + (rest.map fun v => v.category).sum ≤ W9) (hdg : decode c.code g.pc = .ok (.invokevirtual index, 3))
    (hpre : ∀ vm₁, s.WarmedH vm₁ → Pre ⟨T.setVm vm₁, locs, cells, slots⟩ (Value.ref b :: argsL).toArray) :
    (∃ (v : Option Value) (vm₁ : Vm) (B : Pt), s.WarmedH vm₁ ∧ Stand p l e R s m args below meth c B.U B.locs B.cells B.slots ∧ Post ⟨T.setVm vm₁, locs, cells, slots⟩ (Value.ref b :: argsL).toArray v B ∧
      ∀ target, Steps p.tables e below (B.U.setTop { g with pc := g.pc + 3, stack := v.toList ++ rest }) target → Steps p.tables e below (T.setTop g) target) ∨
    (∃ (q : Addr) (vm₁ : Vm) (B : Pt), s.WarmedH vm₁ ∧ Stand p l e R s m args below meth c B.U B.locs B.cells B.slots ∧ PostX ⟨T.setVm vm₁, locs, cells, slots⟩ (Value.ref b :: argsL).toArray q B ∧
      Steps p.tables e below (T.setTop g) ((B.U.setTop { g with stack := rest }).pushFrame (.throwing q))) := by
  obtain ⟨mk, methM, hnamed, hmethM, hstM, habM⟩ := Cond.instanceMethod_spec hinst
  obtain ⟨methM', cM, hmethM', -, -, -, -, -, -, hsigM⟩ := Cond.code_spec hnamed hcode
  cases hmethM.symm.trans hmethM'
  obtain ⟨c2, r2, m2, q1, q2, q3, q4, kP, hkP, hkPi⟩ := Cond.selects_spec hsel
  cases hcls.symm.trans q1
  cases (State.methodFound?_of_named hnamed hy).symm.trans q2
  cases hnamed.symm.trans q3
  have hselP : selectMethod e.platform s.vm cellB.cls mk = .method mk := by rw [Launch.admits_selectMethod X.admits]; exact q4
  obtain ⟨vm₁, X₁, hstep₁⟩ := X.invokevirtual hexec hown hlink hnamed hmethM hstM hkP hkPi hy (a := b) (cell := cellB) hcell
    (fun z h => by rw [h] at hobj; cases hobj) hselP hmethM habM hkP hkPi (g := g) hg (argsL := argsL) (rest := rest) (hlen _ hsigM) hstack hdg
  rcases hK m meth c ⟨T.setVm vm₁, locs, cells, slots⟩ { g with stack := rest } (.invokevirtual index) mk (Value.ref b :: argsL).toArray X₁ hg hsize hdg hW (X₁.named hnamed) (hpre vm₁ X₁.warmed) with ⟨v, B, X', hpost, hsteps⟩ | ⟨q, B, X', hpost, hsteps⟩
  · exact Or.inl ⟨v, vm₁, B, X₁.warmed, X', hpost, fun target h => hstep₁ _ fun acts => by rw [doInvoke_state]; exact hsteps.trans h⟩
  · exact Or.inr ⟨q, vm₁, B, X₁.warmed, X', hpost, hstep₁ _ fun acts => by rw [doInvoke_state]; exact hsteps⟩
theorem vx_callS (X : Stand p l e R s m args below meth c T locs cells slots) (hexec : p.tables.exec = Jvm.exec) {own : String} {index : Nat} {y : MethodName} {bytes : ByteArray} {maxL : Nat} {ret : Option FieldType}
    (hown : s.vm.findClass own = some m.cls) (hlink : (Cond.methodLink own index y).before args s = true) (hstat : (Cond.static y).before args s = true) (hinit : (Cond.initialized y.cls).before args s = true)
    (hcode : (Cond.code y bytes maxL ret).before args s = true) (hy : y.cls ≠ "java/lang/invoke/MethodHandle" ∧ y.cls ≠ "java/lang/invoke/VarHandle")
    {W9 : Nat} {Pre : Pt → Array Value → Prop} {Post : Pt → Array Value → Option Value → Pt → Prop} {PostX : Pt → Array Value → Addr → Pt → Prop} (hK : vx_Back l R p e below s args y 3 W9 Pre Post PostX)
    {g : JFrame} (hg : g.method = m) (hsize : g.locals.size = c.maxLocals) {argsL rest : List Value} (hlen : ∀ sig, parseMethodDescriptor y.desc = some sig → argsL.length = sig.parameters.length)
    (hstack : g.stack = argsL.reverse ++ rest) (hW : 2 * g.monitorRoom + (rest.map fun v => v.category).sum ≤ W9) (hdg : decode c.code g.pc = .ok (.invokestatic index, 3))
    (hpre : ∀ vm₁, s.WarmedH vm₁ → Pre ⟨T.setVm vm₁, locs, cells, slots⟩ argsL.toArray) :
    (∃ (v : Option Value) (vm₁ : Vm) (B : Pt), s.WarmedH vm₁ ∧ Stand p l e R s m args below meth c B.U B.locs B.cells B.slots ∧ Post ⟨T.setVm vm₁, locs, cells, slots⟩ argsL.toArray v B ∧
      ∀ target, Steps p.tables e below (B.U.setTop { g with pc := g.pc + 3, stack := v.toList ++ rest }) target → Steps p.tables e below (T.setTop g) target) ∨
    (∃ (q : Addr) (vm₁ : Vm) (B : Pt), s.WarmedH vm₁ ∧ Stand p l e R s m args below meth c B.U B.locs B.cells B.slots ∧ PostX ⟨T.setVm vm₁, locs, cells, slots⟩ argsL.toArray q B ∧
      Steps p.tables e below (T.setTop g) ((B.U.setTop { g with stack := rest }).pushFrame (.throwing q))) := by
  obtain ⟨mk, hnamed⟩ := Cond.code_named hcode
  obtain ⟨methM, cM, hmethM, -, -, -, -, -, -, hsigM⟩ := Cond.code_spec hnamed hcode
  have hstatic : methM.isStatic = true := Cond.static_spec hnamed hmethM hstat
  obtain ⟨kP, hkP, -⟩ := className_of_methodNamed hnamed
  have hinitP : kP.init = .initialized := Cond.initialized_spec (findClass_of_methodNamed hnamed) hkP hinit
  obtain ⟨vm₁, X₁, hstep₁⟩ := X.invokestatic hexec hown hlink hnamed hmethM hstatic hkP hinitP hy (g := g) hg (argsL := argsL) (rest := rest) (hlen _ hsigM) hstack hdg
  rcases hK m meth c ⟨T.setVm vm₁, locs, cells, slots⟩ { g with stack := rest } (.invokestatic index) mk argsL.toArray X₁ hg hsize hdg hW (X₁.named hnamed) (hpre vm₁ X₁.warmed) with ⟨v, B, X', hpost, hsteps⟩ | ⟨q, B, X', hpost, hsteps⟩
  · exact Or.inl ⟨v, vm₁, B, X₁.warmed, X', hpost, fun target h => hstep₁ _ fun acts => by rw [doInvoke_state]; exact hsteps.trans h⟩
  · exact Or.inr ⟨q, vm₁, B, X₁.warmed, X', hpost, hstep₁ _ fun acts => by rw [doInvoke_state]; exact hsteps⟩
end Calls
theorem vx_cls {s : State} {T : State} {vm₁ : Vm} {E : String} {k : ClassId} (hW : s.WarmedH vm₁) (h : (T.setVm vm₁).vm.findClass E = some k) : s.vm.findClass E = some k := by
  have h1 : vm₁.findClass E = some k := h
  rw [hW.alike.findClass] at h1
  exact h1
/-- the method's frame g, with q thrown over it -/
def vx_W (p : Program) (l : Launch) (e : Env) (R : Room) (s : State) (m : MethodId) (args : Array Value) (below : List Frame) (meth : Method) (c : Code) (H : Heap) (locs : List Loc) (cells slots : Nat) (Q : State → Prop) (g : JFrame) (q : Addr) : Prop :=
  ∀ T : State, T.heap = H → Stand p l e R s m args below meth c T locs cells slots → ∃ t, Steps p.tables e below ((T.setTop g).pushFrame (.throwing q)) t ∧ Q t
def vx_Run (p : Program) (l : Launch) (e : Env) (R : Room) (s : State) (m : MethodId) (args : Array Value) (below : List Frame) (meth : Method) (c : Code) (H : Heap) (locs : List Loc) (cells slots mc ms : Nat) (g : JFrame) (rest : List Value) (Qa : State → Outcome → State → Prop) (XC : String → State → State → Prop) (free : Addr → Prop) : Prop :=
  ∀ T : State, T.heap = H → Stand p l e R s m args below meth c T locs cells slots →
    (∃ (v : Option Value) (st₀ t T' : State) (L : List Loc), st₀.heap = H ∧ Stand p l e R s m args below meth c T' (locs ++ L) (cells + mc) (slots + ms) ∧ (∀ q ∈ L, free q.base) ∧ T'.heap = t.heap ∧ T'.vm = t.vm ∧ Qa st₀ (.returned v) t ∧
      Goes p e below T g T' { g with pc := g.pc + 3, stack := v.toList ++ rest }) ∨
    (∃ (q : Addr) (st₀ t T' : State) (L : List Loc) (E : String) (ce : Cell), st₀.heap = H ∧ Stand p l e R s m args below meth c T' (locs ++ L) (cells + mc) (slots + ms) ∧ (∀ z ∈ L, free z.base) ∧ T'.heap = t.heap ∧ T'.vm = t.vm ∧ XC E st₀ t ∧ t.heap[q]? = some ce ∧ ce.vm = .none ∧ s.vm.findClass E = some ce.cls ∧
      Steps p.tables e below (T.setTop g) ((T'.setTop { g with stack := rest }).pushFrame (.throwing q)))
def vx_X {S : Type} (px : S → Prop) (B : String → S → State → Prop) (A : Nat → Prop) : String → State → State → Prop := fun E st t => ∃ u : S, px u ∧ B E u t ∧ va_F A st t
section Runs
variable {p : Program} {l : Launch} {e : Env} {R : Room} {s : State} {m : MethodId} {args : Array Value} {below : List Frame} {meth : Method} {c : Code} {H : Heap} {locs : List Loc} {cells slots : Nat}
variable {y : MethodName} {bytes cc : ByteArray} {maxL nL mc ms n index : Nat} {ret : Option FieldType} {ws : List Cond} {rm : Room} {Pc : Array Value → State → Prop} {Qc : Array Value → State → Outcome → State → Prop} {XC : String → State → State → Prop} {free : Addr → Prop} {Ts : List Cond} {own C : String} {b : Addr} {As rest : List Value} {g : JFrame}
theorem vx_callBack (cb : CallB R s args own index y bytes maxL ret ws rm mc ms n) (hM : vx_Met l y ws rm Pc Qc XC mc ms free) (hbl : FrameBlind Pc) : vx_Back l R p e below s args y 3 8 (PreOf R mc ms Pc) (PostOf Qc mc ms free) (vx_Post XC mc ms free) := by
  obtain ⟨hrc, hrs, hfr, hlo, hws, hcw, -, hini, -⟩ := cb
  exact vx_back (bytes := bytes) (maxL := maxL) (ret := ret) hM hbl hrc hrs hfr hlo hws hcw (fun a' U hW => word_at hW (Or.inl (by first | rfl | simp [Cond.onTables, Cond.keeps, Cond.steady])) hini)
theorem vx_runV (S : CallFix p m c cc nL s args Ts own) (hM : vx_Met l y ws rm Pc Qc XC mc ms free) (cw : CallW R s args own C index y bytes maxL ret ws rm mc ms n) (hp : PreV s H C b Pc As)
    (hg : g.method = m) (hn : As.length = n) (hsize : g.locals.size = nL) (hstack : g.stack = As.reverse ++ .ref b :: rest) (hW : 2 * g.monitorRoom + (rest.map fun v => v.category).sum ≤ 8) (hdg : decode cc g.pc = .ok (.invokevirtual index, 3)) (hf : cells + mc ≤ R.cells ∧ slots + ms ≤ R.slots) :
    vx_Run p l e R s m args below meth c H locs cells slots mc ms g rest (Qc (Value.ref b :: As).toArray) XC free := by
  have hK : vx_Back l R p e below s args y 3 8 (PreOf R mc ms Pc) (PostOf Qc mc ms free) (vx_Post XC mc ms free) := vx_callBack cw.1 hM hp.1
  obtain ⟨⟨-, -, -, -, -, -, hcode, -, hy, hlen, hl⟩, hin, hse⟩ := cw
  obtain ⟨hx, hb, hml, ho, -⟩ := S
  obtain ⟨-, ⟨cellB, hcB, hoB, hclB⟩, hPc⟩ := hp
  intro T hT X
  rcases vx_callV X hx (C := C) (bytes := bytes) (maxL := maxL) (ret := ret) ho hl hin hse hcode hy hK (by rw [hT]; exact hcB) hoB hclB hg (hsize.trans hml.symm) (argsL := As) (rest := rest) (fun sig h => hn.trans (hlen sig h)) hstack hW (by rw [hb]; exact hdg)
    (fun vm₁ hW₁ => ⟨hf.1, hf.2, hPc (T.setVm vm₁) hT hW₁⟩) with ⟨v, vm₁, ⟨U', l2, c2, s2⟩, hW₁, X', ⟨g', mk, t, L, e1, e2, hq, h1, hL, h2, h3⟩, st⟩ | ⟨q, vm₁, ⟨U', l2, c2, s2⟩, hW₁, X', ⟨g', mk, t, L, E, ce, e1, e2, hq, hce, hcv, hcl, h1, hL, h2, h3⟩, st⟩
  · dsimp only [Pt.U, Pt.locs, Pt.cells, Pt.slots] at X' e1 e2 h1 h2 h3 st
    subst h1; subst h2; subst h3
    exact Or.inl ⟨v, (T.setVm vm₁).calling g' mk (Value.ref b :: As).toArray, t, U', L, hT, X', hL, e1, e2, hq, st⟩
  · dsimp only [Pt.U, Pt.locs, Pt.cells, Pt.slots] at X' e1 e2 h1 h2 h3 st hcl
    subst h1; subst h2; subst h3
    exact Or.inr ⟨q, (T.setVm vm₁).calling g' mk (Value.ref b :: As).toArray, t, U', L, E, ce, hT, X', hL, e1, e2, hq, hce, hcv, vx_cls hW₁ hcl, st⟩
theorem vx_runS (S : CallFix p m c cc nL s args Ts own) (hM : vx_Met l y ws rm Pc Qc XC mc ms free) (cw : CallB R s args own index y bytes maxL ret ws rm mc ms n ∧ (Cond.static y).before args s = true) (hp : PreS s H Pc As)
    (hg : g.method = m) (hn : As.length = n) (hsize : g.locals.size = nL) (hstack : g.stack = As.reverse ++ rest) (hW : 2 * g.monitorRoom + (rest.map fun v => v.category).sum ≤ 8) (hdg : decode cc g.pc = .ok (.invokestatic index, 3)) (hf : cells + mc ≤ R.cells ∧ slots + ms ≤ R.slots) :
    vx_Run p l e R s m args below meth c H locs cells slots mc ms g rest (Qc As.toArray) XC free := by
  have hK : vx_Back l R p e below s args y 3 8 (PreOf R mc ms Pc) (PostOf Qc mc ms free) (vx_Post XC mc ms free) := vx_callBack cw.1 hM hp.1
  obtain ⟨⟨-, -, -, -, -, -, hcode, hini, hy, hlen, hl⟩, hstt⟩ := cw
  obtain ⟨hx, hb, hml, ho, -⟩ := S
  intro T hT X
  rcases vx_callS X hx (bytes := bytes) (maxL := maxL) (ret := ret) ho hl hstt hini hcode hy hK hg (hsize.trans hml.symm) (argsL := As) (rest := rest) (fun sig h => hn.trans (hlen sig h)) hstack hW (by rw [hb]; exact hdg)
    (fun vm₁ hW₁ => ⟨hf.1, hf.2, hp.2 (T.setVm vm₁) hT hW₁⟩) with ⟨v, vm₁, ⟨U', l2, c2, s2⟩, hW₁, X', ⟨g', mk, t, L, e1, e2, hq, h1, hL, h2, h3⟩, st⟩ | ⟨q, vm₁, ⟨U', l2, c2, s2⟩, hW₁, X', ⟨g', mk, t, L, E, ce, e1, e2, hq, hce, hcv, hcl, h1, hL, h2, h3⟩, st⟩
  · dsimp only [Pt.U, Pt.locs, Pt.cells, Pt.slots] at X' e1 e2 h1 h2 h3 st
    subst h1; subst h2; subst h3
    exact Or.inl ⟨v, (T.setVm vm₁).calling g' mk As.toArray, t, U', L, hT, X', hL, e1, e2, hq, st⟩
  · dsimp only [Pt.U, Pt.locs, Pt.cells, Pt.slots] at X' e1 e2 h1 h2 h3 st hcl
    subst h1; subst h2; subst h3
    exact Or.inr ⟨q, (T.setVm vm₁).calling g' mk As.toArray, t, U', L, E, ce, hT, X', hL, e1, e2, hq, hce, hcv, vx_cls hW₁ hcl, st⟩
end Runs
section Rows
variable {p : Program} {l : Launch} {e : Env} {R : Room} {s : State} {m : MethodId} {args : Array Value} {below : List Frame} {meth : Method} {c : Code} {H : Heap} {locs : List Loc} {cells slots : Nat} {Q : State → Prop}
variable {mc ms : Nat} {free : Addr → Prop} {A0 A1 : Nat → Prop} {H0 : Heap} {a : Array Value} {pc : Nat} {ls : Array Slot} {st0 rest : List Value}
theorem vx_keep {st₀ t T' : State} {L : List Loc} (h0 : st₀.heap = H) (e1 : T'.heap = t.heap) (hS : va_S A0 H0 H locs) (hA : ∀ q, q < H.size → A1 q → A0 q) (hf : ∀ q, free q → A0 q) (hL : ∀ q ∈ L, free q.base) (hF : va_F A1 st₀ t) :
    H.size ≤ T'.heap.size ∧ (∀ q : Nat, q < H.size → ¬ A1 q → T'.heap[q]? = H[q]?) ∧ va_S A0 H0 T'.heap (locs ++ L) := by
  obtain ⟨hz, hk⟩ := hF
  rw [h0] at hz hk
  exact ⟨by rw [e1]; exact hz, fun q h1 h2 => by rw [e1]; exact hk q h1 h2,
    ⟨Nat.le_trans hS.1 (by rw [e1]; exact hz), fun q h1 h2 => by rw [e1, hk q (Nat.lt_of_lt_of_le h1 hS.1) (fun z => h2 (hA q (Nat.lt_of_lt_of_le h1 hS.1) z))]; exact hS.2.1 q h1 h2, fun q hq => by
      rcases List.mem_append.mp hq with h | h
      · exact hS.2.2 q h
      · exact hf _ (hL q h)⟩⟩
theorem vx_calli {S SX : Type} {post : Int32 → S → Prop} {px : SX → Prop} {B : S → State → Prop} {BX : String → SX → State → Prop} {AX : Nat → Prop} (hr : vx_Run p l e R s m args below meth c H locs cells slots mc ms (F0 m pc ls st0) rest (va_Qi post B A1 a) (vx_X px BX AX) free) (hS : va_S A0 H0 H locs) (hA : ∀ q, q < H.size → A1 q → A0 q) (hf : ∀ q, free q → A0 q) (hAX : ∀ q, q < H.size → AX q → A0 q)
    (kx : ∀ (E : String) (ce : Cell) (q9 : Addr) (u : SX) (t : State) (H1 : Heap) (locs1 : List Loc), t.heap = H1 → s.vm.Alike t.vm → px u → BX E u t → H.size ≤ H1.size → (∀ q : Nat, q < H.size → ¬ AX q → H1[q]? = H[q]?) → va_S A0 H0 H1 locs1 → H1[q9]? = some ce → ce.vm = .none → s.vm.findClass E = some ce.cls → vx_W p l e R s m args below meth c H1 locs1 (cells + mc) (slots + ms) Q (F0 m pc ls rest) q9)
    (kk : ∀ (r : Int32) (u : S) (t : State) (H1 : Heap) (locs1 : List Loc), t.heap = H1 → s.vm.Alike t.vm → post r u → B u t → H.size ≤ H1.size → (∀ q : Nat, q < H.size → ¬ A1 q → H1[q]? = H[q]?) → va_S A0 H0 H1 locs1 → W p l e R s m args below meth c H1 locs1 (cells + mc) (slots + ms) Q (F0 m (pc + 3) ls (.int r :: rest))) : W p l e R s m args below meth c H locs cells slots Q (F0 m pc ls st0) := by
  intro T hT X
  rcases hr T hT X with ⟨v, st₀, t, T', L, h0, X', hL, e1, e2, ⟨⟨r, u, hv, hp, hb⟩, hF⟩, st⟩ | ⟨q, st₀, t, T', L, E, ce, h0, X', hL, e1, e2, ⟨u, hp, hb, hF⟩, hce, hcv, hcl, st⟩
  · cases hv
    obtain ⟨k1, k2, k3⟩ := vx_keep h0 e1 hS hA hf hL hF
    obtain ⟨t2, a1, b1⟩ := kk r u t T'.heap (locs ++ L) e1.symm (by rw [← e2]; exact X'.warmed.alike) hp hb k1 k2 k3 T' rfl X'
    exact ⟨t2, st t2 a1, b1⟩
  · obtain ⟨k1, k2, k3⟩ := vx_keep h0 e1 hS hAX hf hL hF
    obtain ⟨t2, a1, b1⟩ := kx E ce q u t T'.heap (locs ++ L) e1.symm (by rw [← e2]; exact X'.warmed.alike) hp hb k1 k2 k3 (by rw [e1]; exact hce) hcv hcl T' rfl X'
    exact ⟨t2, st.trans a1, b1⟩
theorem vx_calll {S SX : Type} {post : Int64 → S → Prop} {px : SX → Prop} {B : S → State → Prop} {BX : String → SX → State → Prop} {AX : Nat → Prop} (hr : vx_Run p l e R s m args below meth c H locs cells slots mc ms (F0 m pc ls st0) rest (va_Ql post B A1 a) (vx_X px BX AX) free) (hS : va_S A0 H0 H locs) (hA : ∀ q, q < H.size → A1 q → A0 q) (hf : ∀ q, free q → A0 q) (hAX : ∀ q, q < H.size → AX q → A0 q)
    (kx : ∀ (E : String) (ce : Cell) (q9 : Addr) (u : SX) (t : State) (H1 : Heap) (locs1 : List Loc), t.heap = H1 → s.vm.Alike t.vm → px u → BX E u t → H.size ≤ H1.size → (∀ q : Nat, q < H.size → ¬ AX q → H1[q]? = H[q]?) → va_S A0 H0 H1 locs1 → H1[q9]? = some ce → ce.vm = .none → s.vm.findClass E = some ce.cls → vx_W p l e R s m args below meth c H1 locs1 (cells + mc) (slots + ms) Q (F0 m pc ls rest) q9)
    (kk : ∀ (r : Int64) (u : S) (t : State) (H1 : Heap) (locs1 : List Loc), t.heap = H1 → s.vm.Alike t.vm → post r u → B u t → H.size ≤ H1.size → (∀ q : Nat, q < H.size → ¬ A1 q → H1[q]? = H[q]?) → va_S A0 H0 H1 locs1 → W p l e R s m args below meth c H1 locs1 (cells + mc) (slots + ms) Q (F0 m (pc + 3) ls (.long r :: rest))) : W p l e R s m args below meth c H locs cells slots Q (F0 m pc ls st0) := by
  intro T hT X
  rcases hr T hT X with ⟨v, st₀, t, T', L, h0, X', hL, e1, e2, ⟨⟨r, u, hv, hp, hb⟩, hF⟩, st⟩ | ⟨q, st₀, t, T', L, E, ce, h0, X', hL, e1, e2, ⟨u, hp, hb, hF⟩, hce, hcv, hcl, st⟩
  · cases hv
    obtain ⟨k1, k2, k3⟩ := vx_keep h0 e1 hS hA hf hL hF
    obtain ⟨t2, a1, b1⟩ := kk r u t T'.heap (locs ++ L) e1.symm (by rw [← e2]; exact X'.warmed.alike) hp hb k1 k2 k3 T' rfl X'
    exact ⟨t2, st t2 a1, b1⟩
  · obtain ⟨k1, k2, k3⟩ := vx_keep h0 e1 hS hAX hf hL hF
    obtain ⟨t2, a1, b1⟩ := kx E ce q u t T'.heap (locs ++ L) e1.symm (by rw [← e2]; exact X'.warmed.alike) hp hb k1 k2 k3 (by rw [e1]; exact hce) hcv hcl T' rfl X'
    exact ⟨t2, st.trans a1, b1⟩
theorem vx_callf {S SX : Type} {post : UInt32 → S → Prop} {px : SX → Prop} {B : S → State → Prop} {BX : String → SX → State → Prop} {AX : Nat → Prop} (hr : vx_Run p l e R s m args below meth c H locs cells slots mc ms (F0 m pc ls st0) rest (va_Qf post B A1 a) (vx_X px BX AX) free) (hS : va_S A0 H0 H locs) (hA : ∀ q, q < H.size → A1 q → A0 q) (hf : ∀ q, free q → A0 q) (hAX : ∀ q, q < H.size → AX q → A0 q)
    (kx : ∀ (E : String) (ce : Cell) (q9 : Addr) (u : SX) (t : State) (H1 : Heap) (locs1 : List Loc), t.heap = H1 → s.vm.Alike t.vm → px u → BX E u t → H.size ≤ H1.size → (∀ q : Nat, q < H.size → ¬ AX q → H1[q]? = H[q]?) → va_S A0 H0 H1 locs1 → H1[q9]? = some ce → ce.vm = .none → s.vm.findClass E = some ce.cls → vx_W p l e R s m args below meth c H1 locs1 (cells + mc) (slots + ms) Q (F0 m pc ls rest) q9)
    (kk : ∀ (r : UInt32) (u : S) (t : State) (H1 : Heap) (locs1 : List Loc), t.heap = H1 → s.vm.Alike t.vm → post r u → B u t → H.size ≤ H1.size → (∀ q : Nat, q < H.size → ¬ A1 q → H1[q]? = H[q]?) → va_S A0 H0 H1 locs1 → W p l e R s m args below meth c H1 locs1 (cells + mc) (slots + ms) Q (F0 m (pc + 3) ls (.float r :: rest))) : W p l e R s m args below meth c H locs cells slots Q (F0 m pc ls st0) := by
  intro T hT X
  rcases hr T hT X with ⟨v, st₀, t, T', L, h0, X', hL, e1, e2, ⟨⟨r, u, hv, hp, hb⟩, hF⟩, st⟩ | ⟨q, st₀, t, T', L, E, ce, h0, X', hL, e1, e2, ⟨u, hp, hb, hF⟩, hce, hcv, hcl, st⟩
  · cases hv
    obtain ⟨k1, k2, k3⟩ := vx_keep h0 e1 hS hA hf hL hF
    obtain ⟨t2, a1, b1⟩ := kk r u t T'.heap (locs ++ L) e1.symm (by rw [← e2]; exact X'.warmed.alike) hp hb k1 k2 k3 T' rfl X'
    exact ⟨t2, st t2 a1, b1⟩
  · obtain ⟨k1, k2, k3⟩ := vx_keep h0 e1 hS hAX hf hL hF
    obtain ⟨t2, a1, b1⟩ := kx E ce q u t T'.heap (locs ++ L) e1.symm (by rw [← e2]; exact X'.warmed.alike) hp hb k1 k2 k3 (by rw [e1]; exact hce) hcv hcl T' rfl X'
    exact ⟨t2, st.trans a1, b1⟩
theorem vx_calld {S SX : Type} {post : UInt64 → S → Prop} {px : SX → Prop} {B : S → State → Prop} {BX : String → SX → State → Prop} {AX : Nat → Prop} (hr : vx_Run p l e R s m args below meth c H locs cells slots mc ms (F0 m pc ls st0) rest (va_Qd post B A1 a) (vx_X px BX AX) free) (hS : va_S A0 H0 H locs) (hA : ∀ q, q < H.size → A1 q → A0 q) (hf : ∀ q, free q → A0 q) (hAX : ∀ q, q < H.size → AX q → A0 q)
    (kx : ∀ (E : String) (ce : Cell) (q9 : Addr) (u : SX) (t : State) (H1 : Heap) (locs1 : List Loc), t.heap = H1 → s.vm.Alike t.vm → px u → BX E u t → H.size ≤ H1.size → (∀ q : Nat, q < H.size → ¬ AX q → H1[q]? = H[q]?) → va_S A0 H0 H1 locs1 → H1[q9]? = some ce → ce.vm = .none → s.vm.findClass E = some ce.cls → vx_W p l e R s m args below meth c H1 locs1 (cells + mc) (slots + ms) Q (F0 m pc ls rest) q9)
    (kk : ∀ (r : UInt64) (u : S) (t : State) (H1 : Heap) (locs1 : List Loc), t.heap = H1 → s.vm.Alike t.vm → post r u → B u t → H.size ≤ H1.size → (∀ q : Nat, q < H.size → ¬ A1 q → H1[q]? = H[q]?) → va_S A0 H0 H1 locs1 → W p l e R s m args below meth c H1 locs1 (cells + mc) (slots + ms) Q (F0 m (pc + 3) ls (.double r :: rest))) : W p l e R s m args below meth c H locs cells slots Q (F0 m pc ls st0) := by
  intro T hT X
  rcases hr T hT X with ⟨v, st₀, t, T', L, h0, X', hL, e1, e2, ⟨⟨r, u, hv, hp, hb⟩, hF⟩, st⟩ | ⟨q, st₀, t, T', L, E, ce, h0, X', hL, e1, e2, ⟨u, hp, hb, hF⟩, hce, hcv, hcl, st⟩
  · cases hv
    obtain ⟨k1, k2, k3⟩ := vx_keep h0 e1 hS hA hf hL hF
    obtain ⟨t2, a1, b1⟩ := kk r u t T'.heap (locs ++ L) e1.symm (by rw [← e2]; exact X'.warmed.alike) hp hb k1 k2 k3 T' rfl X'
    exact ⟨t2, st t2 a1, b1⟩
  · obtain ⟨k1, k2, k3⟩ := vx_keep h0 e1 hS hAX hf hL hF
    obtain ⟨t2, a1, b1⟩ := kx E ce q u t T'.heap (locs ++ L) e1.symm (by rw [← e2]; exact X'.warmed.alike) hp hb k1 k2 k3 (by rw [e1]; exact hce) hcv hcl T' rfl X'
    exact ⟨t2, st.trans a1, b1⟩
theorem vx_callv {S SX : Type} {post : S → Prop} {px : SX → Prop} {B : S → State → Prop} {BX : String → SX → State → Prop} {AX : Nat → Prop} (hr : vx_Run p l e R s m args below meth c H locs cells slots mc ms (F0 m pc ls st0) rest (va_Qv post B A1 a) (vx_X px BX AX) free) (hS : va_S A0 H0 H locs) (hA : ∀ q, q < H.size → A1 q → A0 q) (hf : ∀ q, free q → A0 q) (hAX : ∀ q, q < H.size → AX q → A0 q)
    (kx : ∀ (E : String) (ce : Cell) (q9 : Addr) (u : SX) (t : State) (H1 : Heap) (locs1 : List Loc), t.heap = H1 → s.vm.Alike t.vm → px u → BX E u t → H.size ≤ H1.size → (∀ q : Nat, q < H.size → ¬ AX q → H1[q]? = H[q]?) → va_S A0 H0 H1 locs1 → H1[q9]? = some ce → ce.vm = .none → s.vm.findClass E = some ce.cls → vx_W p l e R s m args below meth c H1 locs1 (cells + mc) (slots + ms) Q (F0 m pc ls rest) q9)
    (kk : ∀ (u : S) (t : State) (H1 : Heap) (locs1 : List Loc), t.heap = H1 → s.vm.Alike t.vm → post u → B u t → H.size ≤ H1.size → (∀ q : Nat, q < H.size → ¬ A1 q → H1[q]? = H[q]?) → va_S A0 H0 H1 locs1 → W p l e R s m args below meth c H1 locs1 (cells + mc) (slots + ms) Q (F0 m (pc + 3) ls (rest))) : W p l e R s m args below meth c H locs cells slots Q (F0 m pc ls st0) := by
  intro T hT X
  rcases hr T hT X with ⟨v, st₀, t, T', L, h0, X', hL, e1, e2, ⟨⟨u, hv, hp, hb⟩, hF⟩, st⟩ | ⟨q, st₀, t, T', L, E, ce, h0, X', hL, e1, e2, ⟨u, hp, hb, hF⟩, hce, hcv, hcl, st⟩
  · cases hv
    obtain ⟨k1, k2, k3⟩ := vx_keep h0 e1 hS hA hf hL hF
    obtain ⟨t2, a1, b1⟩ := kk u t T'.heap (locs ++ L) e1.symm (by rw [← e2]; exact X'.warmed.alike) hp hb k1 k2 k3 T' rfl X'
    exact ⟨t2, st t2 a1, b1⟩
  · obtain ⟨k1, k2, k3⟩ := vx_keep h0 e1 hS hAX hf hL hF
    obtain ⟨t2, a1, b1⟩ := kx E ce q u t T'.heap (locs ++ L) e1.symm (by rw [← e2]; exact X'.warmed.alike) hp hb k1 k2 k3 (by rw [e1]; exact hce) hcv hcl T' rfl X'
    exact ⟨t2, st.trans a1, b1⟩
/-- caught by the row x of this method's table; the rows ahead don't take it -/
theorem vx_catch {own name : String} {E : String} {ce : Cell} {q : Addr} (hown : s.vm.findClass own = some m.cls) (pre : List ExceptionTableEntry) (x : ExceptionTableEntry) (suf : List ExceptionTableEntry) (hsplit : c.exceptionTable.toList = pre ++ x :: suf)
    (hpass : ∀ z ∈ pre, covers z pc = false ∨ (z.catchType ≠ 0 ∧ ∃ nm : String, (Cond.classLink own z.catchType nm).before args s = true ∧ va_Nc E nm s)) (hx : covers x pc = true) (h0 : x.catchType ≠ 0)
    (hlink : (Cond.classLink own x.catchType name).before args s = true) (hcast : (Cond.castable E name).before args s = true) (hcell : H[q]? = some ce) (hv : ce.vm = .none) (hcl : s.vm.findClass E = some ce.cls)
    (kk : W p l e R s m args below meth c H locs cells slots Q (F0 m x.handlerPc ls [.ref q])) : vx_W p l e R s m args below meth c H locs cells slots Q (F0 m pc ls rest) q := by
  intro T hT X
  have hpl : e.platform.magicAccessors = ({} : Platform).magicAccessors := by rw [X.admits.platform]
  obtain ⟨c3, c4, hc3, hc4, hasg⟩ := Cond.castable_spec hcast
  cases Option.some.inj (hc3.symm.trans hcl)
  obtain ⟨c5, hc5, hcl5⟩ := Cond.classLink_spec hown hlink e.platform hpl
  cases Option.some.inj (hc4.symm.trans hc5)
  obtain ⟨vm', X', st⟩ := X.thenCaughtThrough q (g := F0 m pc ls rest) rfl (Steps.refl _) (by rw [hT]; exact hcell) (by rw [hv]; rfl) (by obtain ⟨k9, h9, -⟩ := Vm.findClass_spec hcl; exact ⟨k9, h9⟩) pre x suf hsplit
    (fun z hz => by
      rcases hpass z hz with h | ⟨hz0, nm, hl1, hn1⟩
      · exact Or.inl h
      · obtain ⟨c6, hc6, hcl6⟩ := Cond.classLink_spec hown hl1 e.platform hpl
        obtain ⟨a8, b8, h1, h2, h3⟩ := hn1
        cases Option.some.inj (h1.symm.trans hcl)
        cases Option.some.inj (h2.symm.trans hc6)
        exact Or.inr ⟨hz0, _, hcl6, h3⟩) hx (Or.inr ⟨h0, c4, hcl5, hasg⟩)
  obtain ⟨t, a1, b1⟩ := kk (T.setVm vm') hT X'
  exact ⟨t, st.trans a1, b1⟩
end Rows
section Ends
variable {p : Program} {l : Launch} {e : Env} {R : Room} {s : State} {m : MethodId} {args : Array Value} {below : List Frame} {meth : Method} {c : Code} {H : Heap} {locs : List Loc} {cells slots : Nat} {Q : State → Prop}
variable {mc ms : Nat} {free : Addr → Prop} {A0 A1 : Nat → Prop} {H0 : Heap} {a : Array Value} {ls : Array Slot} {st0 rest : List Value}
variable {Qc : Array Value → State → Outcome → State → Prop} {XC : String → State → State → Prop}
/-- what a body that may throw owes at its end -/
def vx_MQ (below : List Frame) (Qc : Array Value → State → Outcome → State → Prop) (XC : String → State → State → Prop) (a : Array Value) (s : State) (mc ms : Nat) (free : Addr → Prop) : State → Prop := fun t =>
  ∃ o, t.status = .running ∧ Ended t below o ∧ vx_Q Qc XC mc ms free a s o t
theorem vx_ret {g : JFrame} {mc ms : Nat} (k : W p l e R s m args below meth c H locs cells slots (MQ below Qc args s mc ms free) g) : W p l e R s m args below meth c H locs cells slots (vx_MQ below Qc XC args s mc ms free) g := by
  intro T hT X
  obtain ⟨t, a1, o, b1, b2, b3, b4⟩ := k T hT X
  exact ⟨t, a1, o, b1, b2, Or.inl ⟨b3, b4⟩⟩
/-- not caught here: it goes on to the caller -/
theorem vx_widen {g : JFrame} {q : Addr} {k n : Nat} (h1 : cells ≤ k) (h2 : slots ≤ n) (kk : vx_W p l e R s m args below meth c H locs k n Q g q) : vx_W p l e R s m args below meth c H locs cells slots Q g q := fun T hT X => kk T hT (stand_widen X h1 h2)
theorem vx_out {pc : Nat} {E : String} {ce : Cell} {q : Addr} {mc ms : Nat} (hout : ∀ x ∈ c.exceptionTable.toList, covers x pc = false) (hlocks : meth.locks = false) (hcell : H[q]? = some ce) (hv : ce.vm = .none) (hcl : s.vm.findClass E = some ce.cls)
    (hx : ∀ t : State, t.heap = H → s.vm.Alike t.vm → XC E s t) (hf : ∀ z ∈ locs, free z.base) (hc : cells ≤ mc) (hs : slots ≤ ms) :
    vx_W p l e R s m args below meth c H locs cells slots (vx_MQ below Qc XC args s mc ms free) (F0 m pc ls rest) q := by
  intro T hT X
  obtain ⟨st1, hrun, hend, hW, hsm⟩ := X.leaveThrown q (g := F0 m pc ls rest) rfl rfl rfl hout hlocks
  have hcell9 : (T.setFrames (.throwing q :: below)).heap[q]? = some ce := by
    show T.heap[q]? = some ce
    rw [hT]; exact hcell
  exact ⟨_, st1, .threw q, hrun, hend, Or.inr ⟨q, rfl, E, ce, locs, hx _ hT hW.alike, hcell9, hv, hcl, hW, hsm.mono hc hs, hf⟩⟩
theorem vx_frame {U : State} {k n : Nat} (h : s.sameButNew ({ U with vm := s.vm } : State) locs k n) : s.heap.size ≤ U.heap.size ∧ ∀ q : Nat, q < s.heap.size → (∀ z ∈ locs, z.base ≠ q) → U.heap[q]? = s.heap[q]? := by
  obtain ⟨-, h2, -, -, -, h6⟩ := h
  refine ⟨h2, fun q hq hz => ?_⟩
  obtain ⟨c9, e1, e2, e3, e4⟩ := h6 q _ (Array.getElem?_eq_getElem hq)
  have hs : c9.slots = (s.heap[q]).slots := Array.ext_getElem? fun i => e4 i fun hm => hz _ hm rfl
  have h9 : c9 = s.heap[q] := by
    rw [hs] at e2
    exact e2
  have e5 : U.heap[q]? = some c9 := e1
  rw [e5, h9, Array.getElem?_eq_getElem hq]
/-- the words of a throw but the four that speak of the heap -/
def vx_no (w : Cond) : Bool := decide (w ≠ .isRef (.static Bundle.tN "UNASSIGNED_STACK" Bundle.steD)) && decide (w ≠ .isRef (.static Bundle.tN "SUPPRESSED_SENTINEL" Bundle.listD)) && decide (w ≠ .laysStatic Bundle.tN "UNASSIGNED_STACK" Bundle.steD) && decide (w ≠ .laysStatic Bundle.tN "SUPPRESSED_SENTINEL" Bundle.listD)
def vx_at0 (own : String) (ic : Nat) (X : String) (names : List String) : List Cond := (Bundle.ownAtoms0 own ic X names).filter vx_no
def vx_atS (own : String) (ic : Nat) (X : String) (names : List String) : List Cond := (Bundle.ownAtoms own ic X names).filter vx_no
/-- a word that the tables alone decide, or a good one -/
def vx_ot (w : Cond) : Bool := w.onTables || goodWord w
theorem vx_ot_at {args a' : Array Value} {s U : State} {w : Cond} (hW : s.WarmedH U.vm) (hvm : s.vm = U.vm) (hg : vx_ot w = true) (h : w.before args s = true) : w.before a' U = true := by
  simp only [vx_ot, Bool.or_eq_true] at hg
  rcases hg with hg | hg
  · exact va_tabs hg hvm h
  · exact word_at hW (good_of_word hg) h
/-- a list's words: the good ones out of the method's own list, the others by premises of their own -/
theorem vx_hat {args : Array Value} {s : State} {L B : List Cond} (h1 : ∀ w ∈ L.filter goodWord, w.before args s = true) (h2 : ∀ w ∈ L.filter (fun w => !goodWord w), w ∈ B) (h3 : ∀ w ∈ B, w.before args s = true) : ∀ w ∈ L, w.before args s = true := by
  intro w hw
  by_cases g : goodWord w = true
  · exact h1 w (List.mem_filter.mpr ⟨hw, g⟩)
  · refine h3 w (h2 w (List.mem_filter.mpr ⟨hw, ?_⟩))
    show (!goodWord w) = true
    cases hgw : goodWord w
    · rfl
    · exact absurd hgw g
theorem vx_c {args : Array Value} {s : State} {w : Cond} {B : List Cond} (h : w.before args s = true) (t : ∀ w ∈ B, w.before args s = true) : ∀ w' ∈ w :: B, w'.before args s = true := fun w' h' => (List.mem_cons.mp h').elim (fun e => by rw [e]; exact h) (t w')
theorem vx_n {args : Array Value} {s : State} : ∀ w ∈ ([] : List Cond), w.before args s = true := fun _ h => nomatch h
theorem vx_own {args : Array Value} {s : State} {L : List Cond} (h1 : ∀ w ∈ L.filter vx_no, w.before args s = true)
    (hU : (Cond.isRef (.static Bundle.tN "UNASSIGNED_STACK" Bundle.steD)).before args s = true) (hN : (Cond.isRef (.static Bundle.tN "SUPPRESSED_SENTINEL" Bundle.listD)).before args s = true)
    (lU : (Cond.laysStatic Bundle.tN "UNASSIGNED_STACK" Bundle.steD).before args s = true) (lN : (Cond.laysStatic Bundle.tN "SUPPRESSED_SENTINEL" Bundle.listD).before args s = true) : ∀ w ∈ L, w.before args s = true := by
  intro w hw
  by_cases e1 : w = .isRef (.static Bundle.tN "UNASSIGNED_STACK" Bundle.steD)
  · rw [e1]; exact hU
  · by_cases e2 : w = .isRef (.static Bundle.tN "SUPPRESSED_SENTINEL" Bundle.listD)
    · rw [e2]; exact hN
    · by_cases e3 : w = .laysStatic Bundle.tN "UNASSIGNED_STACK" Bundle.steD
      · rw [e3]; exact lU
      · by_cases e4 : w = .laysStatic Bundle.tN "SUPPRESSED_SENTINEL" Bundle.listD
        · rw [e4]; exact lN
        · exact h1 w (List.mem_filter.mpr ⟨hw, by unfold vx_no; rw [decide_eq_true e1, decide_eq_true e2, decide_eq_true e3, decide_eq_true e4]; rfl⟩)
/-- where a static field lies, its class's statics cell in H -/
def vx_L (C n d : String) (A : Nat → Prop) (U : State) (H : Heap) : Prop := ∃ (c : ClassId) (k : Class) (i : Nat) (f : Field) (a : Nat) (cell : Cell), U.vm.findClass C = some c ∧ U.fieldFound? C n d = some (c, k, i, f) ∧ f.isStatic = true ∧ k.statics = some a ∧ H[a]? = some cell ∧ cell.vm.isStatics = true ∧ cell.cls = c ∧ f.slot < cell.slots.size ∧ k.staticTypes[f.slot]? = some f.type ∧ ¬ A a
theorem vx_L.moved {C n d : String} {A : Nat → Prop} {u U : State} {H : Heap} (hvm : u.vm.Alike U.vm) (h : vx_L C n d A u H) : vx_L C n d A U H := by
  obtain ⟨c, k, i, f, a, cell, h1, h2, h3, h4, h5, h6, h7, h8, h9, h10⟩ := h
  obtain ⟨k', hi', he⟩ := State.fieldFound?_setVm hvm h2
  exact ⟨c, k', i, f, a, cell, by rw [hvm.findClass]; exact h1, hi', h3, by rw [he]; exact h4, h5, h6, h7, h8, by rw [he]; exact h9, h10⟩
theorem vx_L.kept {C n d : String} {A : Nat → Prop} {U : State} {H H1 : Heap} (h : vx_L C n d A U H) (hq : ∀ a : Nat, a < H.size → ¬ A a → H1[a]? = H[a]?) : vx_L C n d A U H1 := by
  obtain ⟨c, k, i, f, a, cell, h1, h2, h3, h4, h5, h6, h7, h8, h9, h10⟩ := h
  exact ⟨c, k, i, f, a, cell, h1, h2, h3, h4, by rw [hq a (Array.getElem?_eq_some_iff.mp h5).1 h10]; exact h5, h6, h7, h8, h9, h10⟩
theorem vx_L.narrow {C n d : String} {A B : Nat → Prop} {U : State} {H : Heap} (h : vx_L C n d A U H) (hAB : ∀ q, B q → A q) : vx_L C n d B U H := by
  obtain ⟨c, k, i, f, a, cell, h1, h2, h3, h4, h5, h6, h7, h8, h9, h10⟩ := h
  exact ⟨c, k, i, f, a, cell, h1, h2, h3, h4, h5, h6, h7, h8, h9, fun z => h10 (hAB _ z)⟩
theorem vx_L.word {C n d : String} {A : Nat → Prop} {s : State} {args : Array Value} (h : vx_L C n d A s s.heap) : (Cond.laysStatic C n d).before args s = true := by
  obtain ⟨c, k, i, f, a, cell, h1, h2, h3, h4, h5, h6, h7, h8, h9, -⟩ := h
  show (Cond.laysStatic C n d).holds args s none s [] = true
  exact Cond.laysStatic_of h1 h2 h3 h4 h5 h6 h7 h8 h9
/-- .. and what it holds: null or some reference -/
def vx_Zq (C n d : String) (A : Nat → Prop) (U : State) (H : Heap) : Prop := va_Zq C n d A U H ∧ vx_L C n d A U H
theorem vx_Zq.moved {C n d : String} {A : Nat → Prop} {u U : State} {H : Heap} (hvm : u.vm.Alike U.vm) (h : vx_Zq C n d A u H) : vx_Zq C n d A U H := ⟨va_Zq.moved hvm h.1, vx_L.moved hvm h.2⟩
theorem vx_Zq.kept {C n d : String} {A : Nat → Prop} {U : State} {H H1 : Heap} (h : vx_Zq C n d A U H) (hq : ∀ a : Nat, a < H.size → ¬ A a → H1[a]? = H[a]?) : vx_Zq C n d A U H1 := ⟨va_Zq.kept h.1 hq, vx_L.kept h.2 hq⟩
theorem vx_Zq.narrow {C n d : String} {A B : Nat → Prop} {U : State} {H : Heap} (h : vx_Zq C n d A U H) (hAB : ∀ q, B q → A q) : vx_Zq C n d B U H := ⟨va_Zq.narrow h.1 hAB, vx_L.narrow h.2 hAB⟩
theorem vx_Zqof {args : Array Value} {s : State} {C n d : String} {A : Nat → Prop} (hl : (Cond.laysStatic C n d).before args s = true) (hini : (Cond.initialized C).before args s = true) (h : (Cond.isRef (.static C n d)).before args s = true) (hA : ∀ a : Nat, a < s.heap.size → ¬ A a) : vx_Zq C n d A s s.heap := by
  refine ⟨va_Zqof hl hini h hA, ?_⟩
  obtain ⟨c, k, i, f, a, cell, h1, h2, h3, h4, h5, h6, h7, h8, h9⟩ := Cond.laysStatic_spec hl
  exact ⟨c, k, i, f, a, cell, h1, h2, h3, h4, h5, h6, h7, h8, h9, hA a (Array.getElem?_eq_some_iff.mp h5).1⟩
theorem vx_isRef {C n d : String} {v : Value} {A : Nat → Prop} {s : State} {args : Array Value} (h : va_Z C n d v A s s.heap) (hv : v.isRef = true) : (Cond.isRef (.static C n d)).before args s = true := by
  obtain ⟨cf, kf, fi, f, a, cell, h1, h2, h3, h4, h5, h6, h7, -⟩ := h
  have he : (Term.static C n d).eval args s none [] s = some v := by
    simp [Term.eval, State.fieldNamed?, h1, h2, h4, h5, h6, h7]
  simp only [Cond.before, Cond.holds, Cond.value, he]
  cases v <;> simp_all [Value.isRef]
theorem vx_isRefq {C n d : String} {A : Nat → Prop} {s : State} {args : Array Value} (h : va_Zq C n d A s s.heap) : (Cond.isRef (.static C n d)).before args s = true := by
  rcases h with h | ⟨t, h⟩
  · exact vx_isRef h rfl
  · exact vx_isRef h rfl
/-- the same frame, seen from here: as if the method were called anew in this heap -/
theorem vx_rebase {T : State} (X : Stand p l e R s m args below meth c T locs cells slots) {R' : Room} (hf : R'.frames ≤ R.frames) (hl : R'.locals ≤ R.locals) (hc : cells + R'.cells ≤ R.cells) (hs : slots + R'.slots ≤ R.slots) :
    Stand p l e R' ((T.setVm s.vm).setFrames (.invoking m args :: below)) m args below meth c T [] 0 0 := by
  have htop : (T.setVm s.vm).topJava?.isSome := X.here.top
  have hF : ((T.setVm s.vm).setFrames (.invoking m args :: below)).frames = .invoking m args :: below := State.frames_setFrames _ (State.cur_lt_of_top htop)
  obtain ⟨g₀, hg0⟩ := Option.isSome_iff_exists.mp htop
  obtain ⟨r, hr⟩ := State.topJava?_eq_some.mp hg0
  have hl9 : e.platform.stackLimits (T.setVm s.vm).me = e.platform.stackLimits s.me := X.limits
  have hb9 : (T.setVm s.vm).me.stackBytes = s.me.stackBytes := X.bytes
  refine ⟨X.admits, X.cas, X.clock, hF, ?_, X.hears, X.method, X.code, X.here, X.tail, X.warmed, ?_, ?_, ?_⟩
  · have h := X.room
    have hU : ((T.setVm s.vm).setFrames (.invoking m args :: below)).localsInUse = s.localsInUse := by
      rw [State.localsInUse_invoking hF (meth := meth) (c := c) X.method X.code, State.localsInUse_invoking X.frames X.method X.code]
    simp only [State.hasRoom, Bool.and_eq_true, decide_eq_true_eq] at h ⊢
    obtain ⟨⟨⟨⟨h1, h2, h3, h4, h5, h6⟩, h7⟩, h8⟩, h9⟩ := h
    rw [X.frames, List.length_cons] at h2 h3
    have q1 := X.heapSize
    have q2 := X.used
    simp only [hF, hU, List.length_cons, State.stackLimits_setFrames, State.stackBytes_setFrames, hl9, hb9]
    refine ⟨⟨⟨⟨by omega, by omega, by omega, by omega, by omega, h6⟩, ?_⟩, ?_⟩, X.book⟩
    · show T.heap.size + R'.cells ≤ e.platform.maxCells
      omega
    · show T.slotsUsed + R'.slots ≤ e.platform.maxSlots
      omega
  · rw [State.stackLimits_setFrames]; rfl
  · rw [State.stackBytes_setFrames]; rfl
  · refine ⟨?_, Nat.le_refl _, Nat.le_refl _, ?_, ?_, fun a c9 h9 => ⟨c9, h9, rfl, rfl, fun _ _ => rfl⟩⟩
    · obtain ⟨t, ht, -⟩ := State.frames_cons hr
      show T.setVm s.vm = { ((T.setVm s.vm).setFrames (.invoking m args :: below)).setFrames (T.setVm s.vm).frames with heap := T.heap, slotsUsed := T.slotsUsed }
      rw [State.setFrames_setFrames, State.setFrames_self ht]
      rfl
    · show T.slotsUsed = T.slotsUsed + ((T.heap.toList.drop T.heap.size).map (·.slots.size)).sum
      rw [List.drop_eq_nil_of_le (Nat.le_of_eq Array.length_toList)]
      rfl
    · show ((T.heap.toList.drop T.heap.size).map (·.slots.size)).sum ≤ 0
      rw [List.drop_eq_nil_of_le (Nat.le_of_eq Array.length_toList)]
      exact Nat.le_refl _
/-- 'throw new E()': new; dup; invokespecial; athrow -/
theorem vx_throw0 {cc : ByteArray} {pc : Nat} (hexec : p.tables.exec = Jvm.exec) (hb : c.code = cc) (hl : l.stackTraces = false) {own cls : String} {names : List String} {ik ic mc ms : Nat} {A : Nat → Prop}
    (hown : s.vm.findClass own = some m.cls) (hcls : Bundle.fit cls = true) (hnames : ∀ n ∈ names, Bundle.fit n = true)
    (hk : (Cond.classLink own ik cls).before args s = true) (hini : (Cond.initialized cls).before args s = true) (hat : ∀ w ∈ vx_at0 own ic cls names, w.before args s = true)
    (hgood : ∀ w ∈ Cond.classLink own ik cls :: Cond.initialized cls :: vx_at0 own ic cls names, vx_ot w = true)
    (hU : vx_Zq Bundle.tN "UNASSIGNED_STACK" Bundle.steD A s s.heap) (hN : vx_Zq Bundle.tN "SUPPRESSED_SENTINEL" Bundle.listD A s s.heap) (hS : va_S A s.heap H locs) (hsize : ls.size = c.maxLocals)
    (d0 : decode cc pc = .ok (.new ik, 3)) (d3 : decode cc (pc + 3) = .ok (.dup, 1)) (d4 : decode cc (pc + 4) = .ok (.invokespecial ic, 3)) (d7 : decode cc (pc + 7) = .ok (.athrow, 1))
    (hout : ∀ x ∈ c.exceptionTable.toList, covers x (pc + 7) = false)
    (hRframes : names.length + 3 < R.frames) (hRlocals : (rest.map fun v => v.category).sum + (13 * (names.length + 1) + 42) ≤ R.locals) (hRcells : cells + 1 ≤ R.cells) (hRslots : slots + 6 ≤ R.slots) (hlocks : meth.locks = false)
    (hx : ∀ t : State, s.vm.Alike t.vm → H.size ≤ t.heap.size → (∀ q : Nat, q < H.size → t.heap[q]? = H[q]?) → XC cls s t)
    (hf : ∀ z ∈ locs, free z.base) (hc : cells + 1 ≤ mc) (hs : slots + 6 ≤ ms) :
    W p l e R s m args below meth c H locs cells slots (vx_MQ below Qc XC args s mc ms free) (F0 m pc ls rest) := by
  intro T hT X
  have htr : e.platform.stackTraces = false := (show e.platform.stackTraces = l.stackTraces by rw [X.admits.platform]).trans hl
  have Y := vx_rebase X (R' := { frames := R.frames, locals := R.locals, cells := 1, slots := 6 }) (Nat.le_refl _) (Nat.le_refl _) hRcells hRslots
  obtain ⟨s', hA⟩ : ∃ z, z = (T.setVm s.vm).setFrames (.invoking m args :: below) := ⟨_, rfl⟩
  rw [← hA] at Y
  have hvm : s'.vm = s.vm := by rw [hA]; rfl
  have hhp : s'.heap = H := by rw [hA]; exact hT
  have hW0 : s.WarmedH s'.vm := by rw [hvm]; exact State.WarmedH.refl s
  have hat' : ∀ w ∈ vx_at0 own ic cls names, w.before args s' = true := fun w hw => vx_ot_at hW0 hvm.symm (hgood w (List.mem_cons_of_mem _ (List.mem_cons_of_mem _ hw))) (hat w hw)
  have hk' : (Cond.classLink own ik cls).before args s' = true := vx_ot_at hW0 hvm.symm (hgood _ List.mem_cons_self) hk
  have hini' : (Cond.initialized cls).before args s' = true := vx_ot_at hW0 hvm.symm (hgood _ (List.mem_cons_of_mem _ List.mem_cons_self)) hini
  have hU' : vx_Zq Bundle.tN "UNASSIGNED_STACK" Bundle.steD A s' s'.heap := by rw [hhp]; exact vx_Zq.moved hW0.alike (hU.kept hS.2.1)
  have hN' : vx_Zq Bundle.tN "SUPPRESSED_SENTINEL" Bundle.listD A s' s'.heap := by rw [hhp]; exact vx_Zq.moved hW0.alike (hN.kept hS.2.1)
  have h : ∀ w ∈ Bundle.ownAtoms0 own ic cls names, w.before args s' = true := vx_own hat' (vx_isRefq hU'.1) (vx_isRefq hN'.1) hU'.2.word hN'.2.word
  have hown' : s'.vm.findClass own = some m.cls := by rw [hvm]; exact hown
  have hins : (Cond.instantiable cls 6).before args s' = true := h _ (by simp [Bundle.ownAtoms0])
  obtain ⟨vm₁, cX, kX, hfX, hkX, -, -, X₁, st1⟩ := Y.newCold hexec (own := own) (C := cls) (index := ik) (n := 6) hown' hk' hins hini'
    (g := F0 m pc ls rest) rfl (by rw [hb]; exact d0) (Nat.le_refl _) (Nat.le_refl _)
  generalize hT1 : (T.setVm vm₁).pushCell { cls := cX, slots := kX.instanceTypes.map defaultValue, vm := .none } = T1 at X₁ st1
  have hcat : (Value.ref T.heap.size).category = 1 := rfl
  have hcellA : T1.heap[T.heap.size]? = some (freshCell cX kX) := by rw [← hT1]; exact State.heap_pushCell_size _ _
  have d3' : decode c.code (pc + 3) = .ok (.dup, 1) := by rw [hb]; exact d3
  obtain ⟨U, hsteps, hrun, hend, hW, hsame, ce, hce, hO⟩ := X₁.ctorThrow0 hexec htr (own := own) (cls := cls) (names := names) (ic := ic) hown' hcls hnames h (fun x hx => nomatch hx) hfX hkX hcellA (by rw [hhp, hT]; exact Nat.le_refl _)
    (g := { method := m, pc := pc + 4, locals := ls, stack := .ref T.heap.size :: .ref T.heap.size :: rest, locked := none }) rfl hsize rfl rfl (rest := rest) rfl
    (by rw [hb]; exact d4) (by rw [hb]; exact d7) hout hRframes (by simp only [List.map_cons, List.sum_cons, hcat]; omega) hlocks
  obtain ⟨f1, f2⟩ := vx_frame hsame
  rw [hhp] at f1 f2
  have hWs : s.WarmedH U.vm := State.WarmedH.trans hW0 hW
  have hcl : s.vm.findClass cls = some ce.cls := by
    have h9 := hO.cls
    rw [hvm] at h9
    exact h9
  have hall : s.sameButNew ({ U with vm := s.vm } : State) locs mc ms := by
    subst hA
    obtain ⟨e1, e2⟩ := hsame
    rw [State.setFrames_setFrames] at e1
    have h2 : (T.setVm s.vm).sameButNew ({ U with vm := s.vm } : State) [] (0 + 1) (0 + 6) := ⟨e1, e2⟩
    have h3 := X.same.trans h2
    rw [List.append_nil] at h3
    exact h3.mono hc hs
  refine ⟨U, ?_, .threw T.heap.size, hrun, hend, Or.inr ⟨T.heap.size, rfl, cls, ce, locs, hx U hWs.alike f1 (fun q hq => f2 q hq (fun z hz => nomatch hz)), hce, hO.vm, hcl, hWs, hall, hf⟩⟩
  refine st1 _ ?_
  show Steps p.tables e below (T1.setTop { method := m, pc := pc + 3, locals := ls, stack := .ref T.heap.size :: rest, locked := none }) _
  jvm_step X₁.here [X₁.here.top, hexec, d3', Value.category]
  exact hsteps
/-- 'throw new E("text")': new; dup; ldc; invokespecial; athrow -/
theorem vx_throwS {cc : ByteArray} {pc : Nat} (hexec : p.tables.exec = Jvm.exec) (hb : c.code = cc) (hl : l.stackTraces = false) {own cls text : String} {names : List String} {ik is ic mc ms sa : Nat} {A : Nat → Prop}
    (hown : s.vm.findClass own = some m.cls) (hcls : Bundle.fit cls = true) (hnames : ∀ n ∈ names, Bundle.fit n = true)
    (hk : (Cond.classLink own ik cls).before args s = true) (hini : (Cond.initialized cls).before args s = true) (hstr : vk_R own is text sa s) (hat : ∀ w ∈ vx_atS own ic cls names, w.before args s = true)
    (hgood : ∀ w ∈ Cond.classLink own ik cls :: Cond.initialized cls :: vx_atS own ic cls names, vx_ot w = true)
    (hU : vx_Zq Bundle.tN "UNASSIGNED_STACK" Bundle.steD A s s.heap) (hN : vx_Zq Bundle.tN "SUPPRESSED_SENTINEL" Bundle.listD A s s.heap) (hS : va_S A s.heap H locs) (hsize : ls.size = c.maxLocals)
    (d0 : decode cc pc = .ok (.new ik, 3)) (d3 : decode cc (pc + 3) = .ok (.dup, 1)) (d4 : decode cc (pc + 4) = .ok (.ldc is, 2)) (d6 : decode cc (pc + 6) = .ok (.invokespecial ic, 3)) (d9 : decode cc (pc + 9) = .ok (.athrow, 1))
    (hout : ∀ x ∈ c.exceptionTable.toList, covers x (pc + 9) = false)
    (hRframes : names.length + 3 < R.frames) (hRlocals : (rest.map fun v => v.category).sum + (13 * (names.length + 1) + 43) ≤ R.locals) (hRcells : cells + 1 ≤ R.cells) (hRslots : slots + 6 ≤ R.slots) (hlocks : meth.locks = false)
    (hx : ∀ t : State, s.vm.Alike t.vm → H.size ≤ t.heap.size → (∀ q : Nat, q < H.size → t.heap[q]? = H[q]?) → XC cls s t)
    (hf : ∀ z ∈ locs, free z.base) (hc : cells + 1 ≤ mc) (hs : slots + 6 ≤ ms) :
    W p l e R s m args below meth c H locs cells slots (vx_MQ below Qc XC args s mc ms free) (F0 m pc ls rest) := by
  intro T hT X
  have htr : e.platform.stackTraces = false := (show e.platform.stackTraces = l.stackTraces by rw [X.admits.platform]).trans hl
  have Y := vx_rebase X (R' := { frames := R.frames, locals := R.locals, cells := 1, slots := 6 }) (Nat.le_refl _) (Nat.le_refl _) hRcells hRslots
  obtain ⟨s', hA⟩ : ∃ z, z = (T.setVm s.vm).setFrames (.invoking m args :: below) := ⟨_, rfl⟩
  rw [← hA] at Y
  have hvm : s'.vm = s.vm := by rw [hA]; rfl
  have hhp : s'.heap = H := by rw [hA]; exact hT
  have hW0 : s.WarmedH s'.vm := by rw [hvm]; exact State.WarmedH.refl s
  have hat' : ∀ w ∈ vx_atS own ic cls names, w.before args s' = true := fun w hw => vx_ot_at hW0 hvm.symm (hgood w (List.mem_cons_of_mem _ (List.mem_cons_of_mem _ hw))) (hat w hw)
  have hk' : (Cond.classLink own ik cls).before args s' = true := vx_ot_at hW0 hvm.symm (hgood _ List.mem_cons_self) hk
  have hini' : (Cond.initialized cls).before args s' = true := vx_ot_at hW0 hvm.symm (hgood _ (List.mem_cons_of_mem _ List.mem_cons_self)) hini
  have hU' : vx_Zq Bundle.tN "UNASSIGNED_STACK" Bundle.steD A s' s'.heap := by rw [hhp]; exact vx_Zq.moved hW0.alike (hU.kept hS.2.1)
  have hN' : vx_Zq Bundle.tN "SUPPRESSED_SENTINEL" Bundle.listD A s' s'.heap := by rw [hhp]; exact vx_Zq.moved hW0.alike (hN.kept hS.2.1)
  have h : ∀ w ∈ Bundle.ownAtoms own ic cls names, w.before args s' = true := vx_own hat' (vx_isRefq hU'.1) (vx_isRefq hN'.1) hU'.2.word hN'.2.word
  have hown' : s'.vm.findClass own = some m.cls := by rw [hvm]; exact hown
  have hins : (Cond.instantiable cls 6).before args s' = true := h _ (by simp [Bundle.ownAtoms])
  obtain ⟨vm₁, cX, kX, hfX, hkX, -, -, X₁, st1⟩ := Y.newCold hexec (own := own) (C := cls) (index := ik) (n := 6) hown' hk' hins hini'
    (g := F0 m pc ls rest) rfl (by rw [hb]; exact d0) (Nat.le_refl _) (Nat.le_refl _)
  generalize hT1 : (T.setVm vm₁).pushCell { cls := cX, slots := kX.instanceTypes.map defaultValue, vm := .none } = T1 at X₁ st1
  have hcat : (Value.ref T.heap.size).category = 1 := rfl
  have hcellA : T1.heap[T.heap.size]? = some (freshCell cX kX) := by rw [← hT1]; exact State.heap_pushCell_size _ _
  have d3' : decode c.code (pc + 3) = .ok (.dup, 1) := by rw [hb]; exact d3
  have d4' : decode c.code (pc + 4) = .ok (.ldc is, 2) := by rw [hb]; exact d4
  have hstr' : vk_R own is text sa s' := vk_R.warm hW0 hstr
  obtain ⟨U, hsteps, hrun, hend, hW, hsame, ce, hce, hO⟩ := X₁.ctorThrowS hexec htr (own := own) (cls := cls) (names := names) (ic := ic) hown' hcls hnames h (fun x hx => nomatch hx) hfX hkX hcellA (by rw [hhp, hT]; exact Nat.le_refl _) (msg := .ref sa) rfl
    (g := { method := m, pc := pc + 6, locals := ls, stack := .ref sa :: .ref T.heap.size :: .ref T.heap.size :: rest, locked := none }) rfl hsize rfl rfl (rest := rest) rfl
    (by rw [hb]; exact d6) (by rw [hb]; exact d9) hout hRframes (by simp only [List.map_cons, List.sum_cons, hcat]; omega) hlocks
  obtain ⟨f1, f2⟩ := vx_frame hsame
  rw [hhp] at f1 f2
  have hWs : s.WarmedH U.vm := State.WarmedH.trans hW0 hW
  have hcl : s.vm.findClass cls = some ce.cls := by
    have h9 := hO.cls
    rw [hvm] at h9
    exact h9
  have hall : s.sameButNew ({ U with vm := s.vm } : State) locs mc ms := by
    subst hA
    obtain ⟨e1, e2⟩ := hsame
    rw [State.setFrames_setFrames] at e1
    have h2 : (T.setVm s.vm).sameButNew ({ U with vm := s.vm } : State) [] (0 + 1) (0 + 6) := ⟨e1, e2⟩
    have h3 := X.same.trans h2
    rw [List.append_nil] at h3
    exact h3.mono hc hs
  refine ⟨U, ?_, .threw T.heap.size, hrun, hend, Or.inr ⟨T.heap.size, rfl, cls, ce, locs, hx U hWs.alike f1 (fun q hq => f2 q hq (fun z hz => nomatch hz)), hce, hO.vm, hcl, hWs, hall, hf⟩⟩
  refine st1 _ ?_
  show Steps p.tables e below (T1.setTop { method := m, pc := pc + 3, locals := ls, stack := .ref T.heap.size :: rest, locked := none }) _
  jvm_step X₁.here [X₁.here.top, hexec, d3', Value.category]
  exact X₁.ldcString hexec (own := own) (text := text) (index := is) (a := sa) hown' hstr'.1 hstr'.2
    (g := { method := m, pc := pc + 4, locals := ls, stack := .ref T.heap.size :: .ref T.heap.size :: rest, locked := none }) rfl d4' _ hsteps
/-- 'throw new E("text")', the text by a wide index -/
theorem vx_throwSW {cc : ByteArray} {pc : Nat} (hexec : p.tables.exec = Jvm.exec) (hb : c.code = cc) (hl : l.stackTraces = false) {own cls text : String} {names : List String} {ik is ic mc ms sa : Nat} {A : Nat → Prop}
    (hown : s.vm.findClass own = some m.cls) (hcls : Bundle.fit cls = true) (hnames : ∀ n ∈ names, Bundle.fit n = true)
    (hk : (Cond.classLink own ik cls).before args s = true) (hini : (Cond.initialized cls).before args s = true) (hstr : vk_R own is text sa s) (hat : ∀ w ∈ vx_atS own ic cls names, w.before args s = true)
    (hgood : ∀ w ∈ Cond.classLink own ik cls :: Cond.initialized cls :: vx_atS own ic cls names, vx_ot w = true)
    (hU : vx_Zq Bundle.tN "UNASSIGNED_STACK" Bundle.steD A s s.heap) (hN : vx_Zq Bundle.tN "SUPPRESSED_SENTINEL" Bundle.listD A s s.heap) (hS : va_S A s.heap H locs) (hsize : ls.size = c.maxLocals)
    (d0 : decode cc pc = .ok (.new ik, 3)) (d3 : decode cc (pc + 3) = .ok (.dup, 1)) (d4 : decode cc (pc + 4) = .ok (.ldc_w is, 3)) (d7 : decode cc (pc + 7) = .ok (.invokespecial ic, 3)) (d10 : decode cc (pc + 10) = .ok (.athrow, 1))
    (hout : ∀ x ∈ c.exceptionTable.toList, covers x (pc + 10) = false)
    (hRframes : names.length + 3 < R.frames) (hRlocals : (rest.map fun v => v.category).sum + (13 * (names.length + 1) + 43) ≤ R.locals) (hRcells : cells + 1 ≤ R.cells) (hRslots : slots + 6 ≤ R.slots) (hlocks : meth.locks = false)
    (hx : ∀ t : State, s.vm.Alike t.vm → H.size ≤ t.heap.size → (∀ q : Nat, q < H.size → t.heap[q]? = H[q]?) → XC cls s t)
    (hf : ∀ z ∈ locs, free z.base) (hc : cells + 1 ≤ mc) (hs : slots + 6 ≤ ms) :
    W p l e R s m args below meth c H locs cells slots (vx_MQ below Qc XC args s mc ms free) (F0 m pc ls rest) := by
  intro T hT X
  have htr : e.platform.stackTraces = false := (show e.platform.stackTraces = l.stackTraces by rw [X.admits.platform]).trans hl
  have Y := vx_rebase X (R' := { frames := R.frames, locals := R.locals, cells := 1, slots := 6 }) (Nat.le_refl _) (Nat.le_refl _) hRcells hRslots
  obtain ⟨s', hA⟩ : ∃ z, z = (T.setVm s.vm).setFrames (.invoking m args :: below) := ⟨_, rfl⟩
  rw [← hA] at Y
  have hvm : s'.vm = s.vm := by rw [hA]; rfl
  have hhp : s'.heap = H := by rw [hA]; exact hT
  have hW0 : s.WarmedH s'.vm := by rw [hvm]; exact State.WarmedH.refl s
  have hat' : ∀ w ∈ vx_atS own ic cls names, w.before args s' = true := fun w hw => vx_ot_at hW0 hvm.symm (hgood w (List.mem_cons_of_mem _ (List.mem_cons_of_mem _ hw))) (hat w hw)
  have hk' : (Cond.classLink own ik cls).before args s' = true := vx_ot_at hW0 hvm.symm (hgood _ List.mem_cons_self) hk
  have hini' : (Cond.initialized cls).before args s' = true := vx_ot_at hW0 hvm.symm (hgood _ (List.mem_cons_of_mem _ List.mem_cons_self)) hini
  have hU' : vx_Zq Bundle.tN "UNASSIGNED_STACK" Bundle.steD A s' s'.heap := by rw [hhp]; exact vx_Zq.moved hW0.alike (hU.kept hS.2.1)
  have hN' : vx_Zq Bundle.tN "SUPPRESSED_SENTINEL" Bundle.listD A s' s'.heap := by rw [hhp]; exact vx_Zq.moved hW0.alike (hN.kept hS.2.1)
  have h : ∀ w ∈ Bundle.ownAtoms own ic cls names, w.before args s' = true := vx_own hat' (vx_isRefq hU'.1) (vx_isRefq hN'.1) hU'.2.word hN'.2.word
  have hown' : s'.vm.findClass own = some m.cls := by rw [hvm]; exact hown
  have hins : (Cond.instantiable cls 6).before args s' = true := h _ (by simp [Bundle.ownAtoms])
  obtain ⟨vm₁, cX, kX, hfX, hkX, -, -, X₁, st1⟩ := Y.newCold hexec (own := own) (C := cls) (index := ik) (n := 6) hown' hk' hins hini'
    (g := F0 m pc ls rest) rfl (by rw [hb]; exact d0) (Nat.le_refl _) (Nat.le_refl _)
  generalize hT1 : (T.setVm vm₁).pushCell { cls := cX, slots := kX.instanceTypes.map defaultValue, vm := .none } = T1 at X₁ st1
  have hcat : (Value.ref T.heap.size).category = 1 := rfl
  have hcellA : T1.heap[T.heap.size]? = some (freshCell cX kX) := by rw [← hT1]; exact State.heap_pushCell_size _ _
  have d3' : decode c.code (pc + 3) = .ok (.dup, 1) := by rw [hb]; exact d3
  have d4' : decode c.code (pc + 4) = .ok (.ldc_w is, 3) := by rw [hb]; exact d4
  have hstr' : vk_R own is text sa s' := vk_R.warm hW0 hstr
  obtain ⟨U, hsteps, hrun, hend, hW, hsame, ce, hce, hO⟩ := X₁.ctorThrowS hexec htr (own := own) (cls := cls) (names := names) (ic := ic) hown' hcls hnames h (fun x hx => nomatch hx) hfX hkX hcellA (by rw [hhp, hT]; exact Nat.le_refl _) (msg := .ref sa) rfl
    (g := { method := m, pc := pc + 7, locals := ls, stack := .ref sa :: .ref T.heap.size :: .ref T.heap.size :: rest, locked := none }) rfl hsize rfl rfl (rest := rest) rfl
    (by rw [hb]; exact d7) (by rw [hb]; exact d10) hout hRframes (by simp only [List.map_cons, List.sum_cons, hcat]; omega) hlocks
  obtain ⟨f1, f2⟩ := vx_frame hsame
  rw [hhp] at f1 f2
  have hWs : s.WarmedH U.vm := State.WarmedH.trans hW0 hW
  have hcl : s.vm.findClass cls = some ce.cls := by
    have h9 := hO.cls
    rw [hvm] at h9
    exact h9
  have hall : s.sameButNew ({ U with vm := s.vm } : State) locs mc ms := by
    subst hA
    obtain ⟨e1, e2⟩ := hsame
    rw [State.setFrames_setFrames] at e1
    have h2 : (T.setVm s.vm).sameButNew ({ U with vm := s.vm } : State) [] (0 + 1) (0 + 6) := ⟨e1, e2⟩
    have h3 := X.same.trans h2
    rw [List.append_nil] at h3
    exact h3.mono hc hs
  refine ⟨U, ?_, .threw T.heap.size, hrun, hend, Or.inr ⟨T.heap.size, rfl, cls, ce, locs, hx U hWs.alike f1 (fun q hq => f2 q hq (fun z hz => nomatch hz)), hce, hO.vm, hcl, hWs, hall, hf⟩⟩
  refine st1 _ ?_
  show Steps p.tables e below (T1.setTop { method := m, pc := pc + 3, locals := ls, stack := .ref T.heap.size :: rest, locked := none }) _
  jvm_step X₁.here [X₁.here.top, hexec, d3', Value.category]
  exact X₁.ldcStringW hexec (own := own) (text := text) (index := is) (a := sa) hown' hstr'.1 hstr'.2
    (g := { method := m, pc := pc + 4, locals := ls, stack := .ref T.heap.size :: .ref T.heap.size :: rest, locked := none }) rfl d4' _ hsteps
end Ends
section Bodies
variable {l : Launch}
theorem vx_ofW {y : MethodName} {ws ws' : List Cond} {rm : Room} {Pc : Array Value → State → Prop} {Qc : Array Value → State → Outcome → State → Prop} {XC : String → State → State → Prop} {mc ms : Nat} {free : Addr → Prop} {cc : ByteArray} {maxL : Nat} {ret : Option FieldType}
    (hy : plainName y.cls = true) (hw : ws = Cond.code y cc maxL ret :: ws')
    (body : ∀ p e s m args below meth c s₁, BodyLoose p l y (headSpec ws rm) cc maxL ret e s m args below meth c s₁ → c.maxLocals = maxL → (∀ x ∈ c.exceptionTable.toList, False) → Pc args s →
      W p l e (headSpec ws rm).room s m args below meth c s.heap [] 0 0 (vx_MQ below Qc XC args s mc ms free) (entryFrame m args maxL)) : vx_Met l y ws rm Pc Qc XC mc ms free := by
  refine MetFree.of_bodyS (code := cc) (maxLocals := maxL) (ret := ret) hy ?_ ?_
  · intro args s m h hn
    obtain ⟨meth, c, h1, h2, h3, h4, h5, h6, -, -⟩ := Cond.code_spec hn (atoms_spec (ws := ws) h _ (by rw [hw]; exact List.mem_cons_self))
    exact ⟨meth, c, h1, h2, h3, h4, h5, h6⟩
  · intro p e s m args below meth c s₁ B hml hP _
    have hh0 : s₁.heap = s.heap := by rw [B.state]; rfl
    have ht : ∀ x ∈ c.exceptionTable.toList, False := by
      obtain ⟨meth9, c9, h1, h2, -, -, -, -, h7, -⟩ := Cond.code_spec B.named (atoms_spec (ws := ws) B.pre _ (by rw [hw]; exact List.mem_cons_self))
      cases Option.some.inj (h1.symm.trans B.method)
      cases Option.some.inj (h2.symm.trans (Stand.of_body B).code)
      intro x hx
      rw [Array.isEmpty_iff.mp h7] at hx
      cases hx
    obtain ⟨t, a1, o, b1, b2, b3⟩ := body p e s m args below meth c s₁ B hml ht hP s₁ hh0 (Stand.of_body B)
    exact ⟨t, o, a1, b1, b2, b3⟩
/-- the table of a body with handlers -/
theorem vx_table {p : Program} {x y : MethodName} {S : Spec} {cc bytes : ByteArray} {maxL maxL' : Nat} {ret ret' : Option FieldType} {e : Env} {s s₁ : State} {m : MethodId} {args : Array Value} {below : List Frame} {meth : Method} {c : Code} {hh : List (Nat × Nat × Nat × Nat)}
    (B : BodyLoose p l y S cc maxL ret e s m args below meth c s₁) (h : (Cond.codeWith y bytes maxL' ret' hh).before args s = true) : c.exceptionTable.toList = tableOf hh := by
  obtain ⟨m9, meth9, c9, hn9, h1, h2, -, -, h6, -⟩ := Cond.codeWith_spec h
  cases Option.some.inj (hn9.symm.trans B.named)
  cases Option.some.inj (h1.symm.trans B.method)
  cases Option.some.inj (h2.symm.trans (Stand.of_body B).code)
  rw [← h6, table_eq]
end Bodies
end VXA
/-! ===== END ===== -/
/-! ===== BEGIN a static call of a method with an exception table ===== -/
section VXS
variable {p : Program} {l : Launch} {e : Env} {R : Room} {s : State} {m : MethodId} {args : Array Value} {below : List Frame} {meth : Method} {c : Code} {T : State} {H : Heap} {locs : List Loc} {cells slots : Nat}
abbrev vx_CSW (R : Room) (s : State) (args : Array Value) (own : String) (index : Nat) (y : MethodName) (bytes : ByteArray) (maxL : Nat) (ret : Option FieldType) (hh : List (Nat × Nat × Nat × Nat)) (ws : List Cond) (rm : Room) (mc ms n : Nat) : Prop :=
  (rm.cells = mc ∧ rm.slots = ms ∧ rm.frames + 1 ≤ R.frames ∧ 8 + (maxL + 11) + rm.locals ≤ R.locals ∧ (∀ w ∈ ws, ∀ (a' : Array Value) (U : State), s.WarmedH U.vm → w.before a' U = true) ∧ Cond.codeWith y bytes maxL ret hh ∈ ws) ∧
  (Cond.codeWith y bytes maxL ret hh).before args s = true ∧ (Cond.initialized y.cls).before args s = true ∧ (y.cls ≠ "java/lang/invoke/MethodHandle" ∧ y.cls ≠ "java/lang/invoke/VarHandle") ∧
  (∀ sig, parseMethodDescriptor y.desc = some sig → n = sig.parameters.length) ∧ (Cond.methodLink own index y).before args s = true ∧ (Cond.static y).before args s = true
theorem vx_cwSW {own : String} {index maxL mc ms : Nat} {y : MethodName} {bytes : ByteArray} {ret : Option FieldType} {hh : List (Nat × Nat × Nat × Nat)} {Ts ws ws' : List Cond} {rm : Room} (n : Nat) (ht : ∀ w ∈ Ts, w.before args s = true) (hT : GoodIn Ts (va_wsS own index y ws)) (hw : ws = Cond.codeWith y bytes maxL ret hh :: ws') (hrc : rm.cells = mc) (hrs : rm.slots = ms)
    (hd : y.cls ≠ "java/lang/invoke/MethodHandle" ∧ y.cls ≠ "java/lang/invoke/VarHandle" ∧ (parseMethodDescriptor y.desc).map (fun d => d.parameters.length) = some n) (hR : rm.frames + 1 ≤ R.frames ∧ 8 + (maxL + 11) + rm.locals ≤ R.locals) :
    vx_CSW R s args own index y bytes maxL ret hh ws rm mc ms n := by
  have ok : ∀ w ∈ va_wsS own index y ws, w.before args s = true := fun w h => ht w (hT w h).1
  have hG : GoodIn Ts ws := fun w h => hT w (by unfold va_wsS; exact List.mem_append_right _ h)
  have hc : Cond.codeWith y bytes maxL ret hh ∈ ws := by rw [hw]; exact List.mem_cons_self
  refine ⟨⟨hrc, hrs, hR.1, hR.2, pay_in ht hG, hc⟩, ht _ (hG _ hc).1, ok _ (by simp [va_wsS]), ⟨hd.1, hd.2.1⟩, fun sig h => ?_, ok _ (by simp [va_wsS]), ok _ (by simp [va_wsS])⟩
  have h2 := hd.2.2
  rw [h] at h2
  exact (Option.some.inj h2).symm
theorem vx_callSW (X : Stand p l e R s m args below meth c T locs cells slots) (hexec : p.tables.exec = Jvm.exec) {own : String} {index : Nat} {y : MethodName} {bytes : ByteArray} {maxL : Nat} {ret : Option FieldType} {hh : List (Nat × Nat × Nat × Nat)}
    (hown : s.vm.findClass own = some m.cls) (hlink : (Cond.methodLink own index y).before args s = true) (hstat : (Cond.static y).before args s = true) (hinit : (Cond.initialized y.cls).before args s = true)
    (hcode : (Cond.codeWith y bytes maxL ret hh).before args s = true) (hy : y.cls ≠ "java/lang/invoke/MethodHandle" ∧ y.cls ≠ "java/lang/invoke/VarHandle")
    {W9 : Nat} {Pre : Pt → Array Value → Prop} {Post : Pt → Array Value → Option Value → Pt → Prop} (hK : Back l R p e below s args y 3 W9 Pre Post)
    {g : JFrame} (hg : g.method = m) (hsize : g.locals.size = c.maxLocals) {argsL rest : List Value} (hlen : ∀ sig, parseMethodDescriptor y.desc = some sig → argsL.length = sig.parameters.length)
    (hstack : g.stack = argsL.reverse ++ rest) (hW : 2 * g.monitorRoom + (rest.map fun v => v.category).sum ≤ W9) (hdg : decode c.code g.pc = .ok (.invokestatic index, 3))
    (hpre : ∀ vm₁, s.WarmedH vm₁ → Pre ⟨T.setVm vm₁, locs, cells, slots⟩ argsL.toArray) :
    ∃ (v : Option Value) (vm₁ : Vm) (B : Pt), s.WarmedH vm₁ ∧ Stand p l e R s m args below meth c B.U B.locs B.cells B.slots ∧ Post ⟨T.setVm vm₁, locs, cells, slots⟩ argsL.toArray v B ∧
      ∀ target, Steps p.tables e below (B.U.setTop { g with pc := g.pc + 3, stack := v.toList ++ rest }) target → Steps p.tables e below (T.setTop g) target := by
  obtain ⟨mk, methM, cM, hnamed, hmethM, -, -, -, -, -, -, hsigM⟩ := Cond.codeWith_spec hcode
  have hstatic : methM.isStatic = true := Cond.static_spec hnamed hmethM hstat
  obtain ⟨kP, hkP, -⟩ := className_of_methodNamed hnamed
  have hinitP : kP.init = .initialized := Cond.initialized_spec (findClass_of_methodNamed hnamed) hkP hinit
  obtain ⟨vm₁, X₁, hstep₁⟩ := X.invokestatic hexec hown hlink hnamed hmethM hstatic hkP hinitP hy (g := g) hg (argsL := argsL) (rest := rest) (hlen _ hsigM) hstack hdg
  obtain ⟨v, B, X', hpost, hsteps⟩ := hK m meth c ⟨T.setVm vm₁, locs, cells, slots⟩ { g with stack := rest } (.invokestatic index) mk argsL.toArray X₁ hg hsize hdg hW (X₁.named hnamed) (hpre vm₁ X₁.warmed)
  exact ⟨v, vm₁, B, X₁.warmed, X', hpost, fun target h => hstep₁ _ fun acts => by rw [doInvoke_state]; exact hsteps.trans h⟩
theorem vx_runSW {y : MethodName} {bytes cc : ByteArray} {maxL nL mc ms n index : Nat} {ret : Option FieldType} {hh : List (Nat × Nat × Nat × Nat)} {ws : List Cond} {rm : Room} {Pc : Array Value → State → Prop} {Qc : Array Value → State → Outcome → State → Prop} {free : Addr → Prop} {Ts : List Cond} {own : String} {As rest : List Value} {g : JFrame}
    (S : CallFix p m c cc nL s args Ts own) (hM : Met l y ws rm Pc Qc mc ms free) (cw : vx_CSW R s args own index y bytes maxL ret hh ws rm mc ms n) (hp : PreS s H Pc As)
    (hg : g.method = m) (hn : As.length = n) (hsize : g.locals.size = nL) (hstack : g.stack = As.reverse ++ rest) (hW : 2 * g.monitorRoom + (rest.map fun v => v.category).sum ≤ 8) (hdg : decode cc g.pc = .ok (.invokestatic index, 3)) (hf : cells + mc ≤ R.cells ∧ slots + ms ≤ R.slots) :
    va_Run p l e R s m args below meth c H locs cells slots mc ms g rest (Qc As.toArray) (free) := by
  obtain ⟨⟨hrc, hrs, hfr, hlo, hws, hcw⟩, hcode, hini, hy, hlen, hl, hstt⟩ := cw
  have hK : Back l R p e below s args y 3 8 (PreOf R mc ms Pc) (PostOf Qc mc ms free) := va_backW (hh := hh) (bytes := bytes) (maxL := maxL) (ret := ret) hM hp.1 hrc hrs hfr hlo hws hcw (fun a' U hW => word_at hW (Or.inl (by first | rfl | simp [Cond.onTables, Cond.keeps, Cond.steady])) hini)
  obtain ⟨hx, hb, hml, ho, -⟩ := S
  intro T hT X
  obtain ⟨v, vm₁, ⟨U', l2, c2, s2⟩, hW₁, X', ⟨g', mk, t, L, e1, e2, hq, h1, hL, h2, h3⟩, st⟩ := vx_callSW X hx (hh := hh) (bytes := bytes) (maxL := maxL) (ret := ret) ho hl hstt hini hcode hy hK hg (hsize.trans hml.symm) (argsL := As) (rest := rest) (fun sig h => hn.trans (hlen sig h)) hstack hW (by rw [hb]; exact hdg)
    (fun vm₁ hW₁ => ⟨hf.1, hf.2, hp.2 (T.setVm vm₁) hT hW₁⟩)
  dsimp only [Pt.U, Pt.locs, Pt.cells, Pt.slots] at X' e1 e2 h1 h2 h3 st
  subst h1; subst h2; subst h3
  exact ⟨v, (T.setVm vm₁).calling g' mk As.toArray, t, U', L, hT, X', hL, e1, e2, hq, st⟩
/-- not caught here, past rows that name other classes: it goes on to the caller -/
theorem vx_outP {p : Program} {l : Launch} {e : Env} {R : Room} {s : State} {m : MethodId} {args : Array Value} {below : List Frame} {meth : Method} {c : Code} {H : Heap} {locs : List Loc} {cells slots : Nat} {free : Addr → Prop} {ls : Array Slot} {rest : List Value} {Qc : Array Value → State → Outcome → State → Prop} {XC : String → State → State → Prop}
    {pc : Nat} {own E : String} {ce : Cell} {q : Addr} {mc ms : Nat} (hown : s.vm.findClass own = some m.cls) (hlocks : meth.locks = false)
    (hpass : ∀ z ∈ c.exceptionTable.toList, covers z pc = false ∨ (z.catchType ≠ 0 ∧ ∃ nm : String, (Cond.classLink own z.catchType nm).before args s = true ∧ va_Nc E nm s)) (hcell : H[q]? = some ce) (hv : ce.vm = .none) (hcl : s.vm.findClass E = some ce.cls)
    (hx : ∀ t : State, t.heap = H → s.vm.Alike t.vm → XC E s t) (hf : ∀ z ∈ locs, free z.base) (hc : cells ≤ mc) (hs : slots ≤ ms) :
    vx_W p l e R s m args below meth c H locs cells slots (vx_MQ below Qc XC args s mc ms free) (F0 m pc ls rest) q := by
  intro T hT X
  have hpl : e.platform.magicAccessors = ({} : Platform).magicAccessors := by rw [X.admits.platform]
  obtain ⟨vm', hW', X', st⟩ := X.outThrough hlocks q (g := F0 m pc ls rest) rfl rfl rfl (cell := ce) (by rw [hT]; exact hcell) (by rw [hv]; rfl)
    (by obtain ⟨k9, h9, -⟩ := Vm.findClass_spec hcl; exact ⟨k9, h9⟩) (fun z hz => by
      rcases hpass z hz with h | ⟨hz0, nm, hl1, hn1⟩
      · exact Or.inl h
      · obtain ⟨c6, hc6, hcl6⟩ := Cond.classLink_spec hown hl1 e.platform hpl
        obtain ⟨a8, b8, h1, h2, h3⟩ := hn1
        cases Option.some.inj (h1.symm.trans hcl)
        cases Option.some.inj (h2.symm.trans hc6)
        exact Or.inr ⟨hz0, _, hcl6, h3⟩)
  obtain ⟨g₀, hfr⟩ := X'.frames_eq
  have hcell9 : ((T.setVm vm').setFrames (.throwing q :: below)).heap[q]? = some ce := by
    show T.heap[q]? = some ce
    rw [hT]; exact hcell
  have hend : Ended ((T.setVm vm').setFrames (.throwing q :: below)) below (.threw q) := State.frames_setFrames _ (State.cur_lt_of_frames hfr)
  refine ⟨(T.setVm vm').setFrames (.throwing q :: below), ?_, .threw q, X'.here.running, hend, Or.inr ⟨q, rfl, E, ce, locs, hx _ hT (X'.ends _).1.alike, hcell9, hv, hcl, (X'.ends _).1, (X'.ends _).2.mono hc hs, hf⟩⟩
  rw [X.pushThrowing_eq]
  exact st
/-- a thing of a world lies in the heap -/
theorem vx_lt {D : va_G} {cl : List vw_C} {ws : va_W} {H1 : Heap} (h : va_P D cl ws H1) {k : Nat} {q : Nat × va_E} (hk : ws[k]? = some q) : q.1 < H1.size := (h k q hk).lt
end VXS
/-! ===== END ===== -/
/-! ===== BEGIN methods with a table of their own: called by a name, returning or throwing ===== -/
section VXH
/-! vx_backW, vx_callVX, vx_callSX, vx_callVW, vx_runVW, vx_runVX, vx_runSX, vx_ofWH follow the same proofs as their sisters above (Free/Laws.lean, Shelf42/LK1.lean); vx_outP calls Shelf42/NT130.lean (outThrough). -/
section
variable {l : Launch} {R : Room} {p : Program} {e : Env} {below : List Frame} {s : State} {sargs : Array Value} {y : MethodName} {len W9 : Nat}
theorem vx_backW {ws : List Cond} {rm : Room} {Pc : Array Value → State → Prop} {Qc : Array Value → State → Outcome → State → Prop} {XC : String → State → State → Prop} {mc ms : Nat} {free : Addr → Prop} {bytes : ByteArray} {maxL : Nat} {ret : Option FieldType} {hh : List (Nat × Nat × Nat × Nat)}
    (hM : vx_Met l y ws rm Pc Qc XC mc ms free) (hblind : FrameBlind Pc) (hrc : rm.cells = mc) (hrs : rm.slots = ms)
    (hframes : rm.frames + 1 ≤ R.frames) (hlocals : W9 + (maxL + 11) + rm.locals ≤ R.locals)
    (hws : ∀ w ∈ ws, ∀ a' U, s.WarmedH U.vm → w.before a' U = true) (hcode : Cond.codeWith y bytes maxL ret hh ∈ ws) (hinit : ∀ a' U, s.WarmedH U.vm → (Cond.initialized y.cls).before a' U = true) :
    vx_Back l R p e below s sargs y len W9 (PreOf R mc ms Pc) (PostOf Qc mc ms free) (vx_Post XC mc ms free) := by
  intro m meth c A g ig mk a X hg hsize hdg hW hn hp
  have h1 : (headSpec ws rm).pre.before a A.U = true := atoms_intro fun w hw => hws w hw _ _ X.warmed
  have h2 : (Cond.codeWith y bytes maxL ret hh).before a A.U = true := hws _ hcode _ _ X.warmed
  have h3 : (Cond.initialized y.cls).before a A.U = true := hinit _ _ X.warmed
  have h4 : A.cells + (headSpec ws rm).room.cells ≤ R.cells := by rw [show (headSpec ws rm).room.cells = mc from hrc]; exact hp.1
  have h5 : A.slots + (headSpec ws rm).room.slots ≤ R.slots := by rw [show (headSpec ws rm).room.slots = ms from hrs]; exact hp.2.1
  have hPc : Pc a (A.U.calling g mk a) := hblind _ _ _ _ hp.2.2
  obtain ⟨U, Ls, c0, s0⟩ := A
  dsimp only [Pt.U, Pt.locs, Pt.cells, Pt.slots] at h1 h2 h3 h4 h5 X hn hPc ⊢
  obtain ⟨m9, methY, cY, hn9, hmY, hcY, -, hlY, -⟩ := Cond.codeWith_spec h2
  cases Option.some.inj (hn9.symm.trans hn)
  obtain ⟨kY, hkY, -⟩ := className_of_methodNamed hn
  have hinitY : kY.init = .initialized := Cond.initialized_spec (findClass_of_methodNamed hn) hkY h3
  have h : At U g.method c below := by rw [hg]; exact X.here
  have hlocals9 : W9 + (maxL + 11) + (headSpec ws rm).room.locals ≤ R.locals := hlocals
  have happ : (headSpec ws rm).appliesLoose y e.platform (U.calling g mk a) = true :=
    Spec.appliesLoose_calling (g := g) h hdg hn hkY hinitY
      (X.room_calling (g := g) (R' := (headSpec ws rm).room) hsize hmY hcY hframes (by rw [hlY]; omega) h4 h5) h1
  obtain ⟨mid, hmid⟩ := h.above
  have hfr : (U.setTop g).frames = (.java g :: mid) ++ below := by rw [State.frames_setTop' g h.top, hmid]; rfl
  obtain ⟨o, s₂, hsteps, -, hend, hq⟩ := Steps.callFree hM p X.admits X.cas X.clock (acts := []) hfr happ hPc trivial
  have hq' : vx_Q Qc XC mc ms free a (U.calling g mk a) o s₂ := hq
  rw [State.frames_setTop' g h.top] at hend
  obtain ⟨g₀, hg0⟩ := Option.isSome_iff_exists.mp h.top
  obtain ⟨r, hr⟩ := State.topJava?_eq_some.mp hg0
  have hr' : (({ U with heap := s₂.heap, slotsUsed := s₂.slotsUsed } : State).setVm s₂.vm).frames = .java g₀ :: r := hr
  rcases hq' with ⟨hqc, L, hfe, hL⟩ | ⟨q, rfl, E, ce, L, hx, hce, hcv, hcl, hW₂, hsm, hL⟩
  · obtain ⟨⟨v, rfl⟩, hW₂, e2, q2, q3, q4, q5, q6⟩ := id hfe
    have e3 : s₂ = ({ (U.calling g mk a).setFrames s₂.frames with heap := s₂.heap, slotsUsed := s₂.slotsUsed } : State).setVm s₂.vm := by
      have : s₂ = ({ s₂ with vm := (U.calling g mk a).vm } : State).setVm s₂.vm := rfl
      rw [e2] at this
      exact this
    obtain ⟨c₂, i₂, len₂, hc₂, hd₂, hf₂⟩ := hend
    have hW' : U.WarmedH s₂.vm := hW₂
    have hcc : c₂ = c := by
      have h1 : s₂.code? g.method = U.code? g.method := by
        rw [State.code?_eq, State.code?_eq, hW'.alike.method?]
      exact Option.some.inj (hc₂.symm.trans (h1.trans h.code))
    subst hcc
    have hlen : len₂ = len := by rw [hdg] at hd₂; cases hd₂; rfl
    subst hlen
    have hs₂ : s₂ = (({ U with heap := s₂.heap, slotsUsed := s₂.slotsUsed } : State).setVm s₂.vm).setTop { g with pc := g.pc + len₂, stack := v.toList ++ g.stack } := by
      refine e3.trans ?_
      rw [hf₂, State.calling_eq h.top, State.setFrames_setFrames, State.setTop_of_frames _ hr', hr]
      rfl
    have hsame : U.sameButNew ({ U with heap := s₂.heap, slotsUsed := s₂.slotsUsed } : State) L mc ms := by
      refine ⟨?_, q2, q3, q4, q5, q6⟩
      obtain ⟨t, ht, -⟩ := State.frames_cons hr
      show ({ U with heap := s₂.heap, slotsUsed := s₂.slotsUsed } : State) = { U.setFrames U.frames with heap := s₂.heap, slotsUsed := s₂.slotsUsed }
      rw [State.setFrames_self ht]
    subst hg
    refine Or.inl ⟨v, ⟨(({ U with heap := s₂.heap, slotsUsed := s₂.slotsUsed } : State).setVm s₂.vm), Ls ++ L, c0 + mc, s0 + ms⟩,
      ⟨X.admits, X.cas, X.clock, X.frames, X.room, X.hears, X.method, X.code, (X.here.setHeapUsed s₂.heap s₂.slotsUsed).setVm hW'.alike, X.tail, State.WarmedH.trans X.warmed hW', X.limits, X.bytes, X.same.trans (hsame.setVm s.vm)⟩,
      ⟨g, mk, s₂, L, rfl, rfl, hqc, rfl, hL, rfl, rfl⟩, ?_⟩
    show Steps p.tables e below _ ((({ U with heap := s₂.heap, slotsUsed := s₂.slotsUsed } : State).setVm s₂.vm).setTop { g with pc := g.pc + len₂, stack := v.toList ++ g.stack })
    rw [← hs₂]
    exact hsteps
  · obtain ⟨e2, q2, q3, q4, q5, q6⟩ := id hsm
    have e3 : s₂ = ({ (U.calling g mk a).setFrames s₂.frames with heap := s₂.heap, slotsUsed := s₂.slotsUsed } : State).setVm s₂.vm := by
      have : s₂ = ({ s₂ with vm := (U.calling g mk a).vm } : State).setVm s₂.vm := rfl
      rw [e2] at this
      exact this
    have hf₂ : s₂.frames = .throwing q :: .java g :: U.frames.tail := hend
    have hW' : U.WarmedH s₂.vm := hW₂
    have hs₂ : s₂ = ((({ U with heap := s₂.heap, slotsUsed := s₂.slotsUsed } : State).setVm s₂.vm).setTop g).pushFrame (.throwing q) := by
      refine e3.trans ?_
      rw [hf₂, State.calling_eq h.top, State.setFrames_setFrames, State.pushFrame, State.frames_setTop _ hr', State.setTop_of_frames _ hr', State.setFrames_setFrames, hr]
      rfl
    have hsame : U.sameButNew ({ U with heap := s₂.heap, slotsUsed := s₂.slotsUsed } : State) L mc ms := by
      refine ⟨?_, q2, q3, q4, q5, q6⟩
      obtain ⟨t, ht, -⟩ := State.frames_cons hr
      show ({ U with heap := s₂.heap, slotsUsed := s₂.slotsUsed } : State) = { U.setFrames U.frames with heap := s₂.heap, slotsUsed := s₂.slotsUsed }
      rw [State.setFrames_self ht]
    subst hg
    refine Or.inr ⟨q, ⟨(({ U with heap := s₂.heap, slotsUsed := s₂.slotsUsed } : State).setVm s₂.vm), Ls ++ L, c0 + mc, s0 + ms⟩,
      ⟨X.admits, X.cas, X.clock, X.frames, X.room, X.hears, X.method, X.code, (X.here.setHeapUsed s₂.heap s₂.slotsUsed).setVm hW'.alike, X.tail, State.WarmedH.trans X.warmed hW', X.limits, X.bytes, X.same.trans (hsame.setVm s.vm)⟩,
      ⟨g, mk, s₂, L, E, ce, rfl, rfl, hx, hce, hcv, hcl, rfl, hL, rfl, rfl⟩, ?_⟩
    show Steps p.tables e below _ (((({ U with heap := s₂.heap, slotsUsed := s₂.slotsUsed } : State).setVm s₂.vm).setTop g).pushFrame (.throwing q))
    rw [← hs₂]
    exact hsteps
end
variable {p : Program} {l : Launch} {e : Env} {R : Room} {s : State} {m : MethodId} {args : Array Value} {below : List Frame} {meth : Method} {c : Code} {T : State} {H : Heap} {locs : List Loc} {cells slots : Nat}
theorem vx_callVX (X : Stand p l e R s m args below meth c T locs cells slots) (hexec : p.tables.exec = Jvm.exec) {own C : String} {index : Nat} {y : MethodName} {bytes : ByteArray} {maxL : Nat} {ret : Option FieldType} {hh : List (Nat × Nat × Nat × Nat)}
    (hown : s.vm.findClass own = some m.cls) (hlink : (Cond.methodLink own index y).before args s = true) (hinst : (Cond.instanceMethod y).before args s = true) (hsel : (Cond.selects C y y).before args s = true)
    (hcode : (Cond.codeWith y bytes maxL ret hh).before args s = true) (hy : y.cls ≠ "java/lang/invoke/MethodHandle" ∧ y.cls ≠ "java/lang/invoke/VarHandle")
    {W9 : Nat} {Pre : Pt → Array Value → Prop} {Post : Pt → Array Value → Option Value → Pt → Prop} {PostX : Pt → Array Value → Addr → Pt → Prop} (hK : vx_Back l R p e below s args y 3 W9 Pre Post PostX)
    {b : Addr} {cellB : Cell} (hcell : T.heap[b]? = some cellB) (hobj : cellB.vm.isStatics = false) (hcls : s.vm.findClass C = some cellB.cls)
    {g : JFrame} (hg : g.method = m) (hsize : g.locals.size = c.maxLocals) {argsL rest : List Value} (hlen : ∀ sig, parseMethodDescriptor y.desc = some sig → argsL.length = sig.parameters.length)
    (hstack : g.stack = argsL.reverse ++ .ref b :: rest) (hW : 2 * g.monitorRoom + (rest.map fun v => v.category).sum ≤ W9) (hdg : decode c.code g.pc = .ok (.invokevirtual index, 3))
    (hpre : ∀ vm₁, s.WarmedH vm₁ → Pre ⟨T.setVm vm₁, locs, cells, slots⟩ (Value.ref b :: argsL).toArray) :
    (∃ (v : Option Value) (vm₁ : Vm) (B : Pt), s.WarmedH vm₁ ∧ Stand p l e R s m args below meth c B.U B.locs B.cells B.slots ∧ Post ⟨T.setVm vm₁, locs, cells, slots⟩ (Value.ref b :: argsL).toArray v B ∧
      ∀ target, Steps p.tables e below (B.U.setTop { g with pc := g.pc + 3, stack := v.toList ++ rest }) target → Steps p.tables e below (T.setTop g) target) ∨
    (∃ (q : Addr) (vm₁ : Vm) (B : Pt), s.WarmedH vm₁ ∧ Stand p l e R s m args below meth c B.U B.locs B.cells B.slots ∧ PostX ⟨T.setVm vm₁, locs, cells, slots⟩ (Value.ref b :: argsL).toArray q B ∧
      Steps p.tables e below (T.setTop g) ((B.U.setTop { g with stack := rest }).pushFrame (.throwing q))) := by
  obtain ⟨mk, methM, hnamed, hmethM, hstM, habM⟩ := Cond.instanceMethod_spec hinst
  obtain ⟨m8, methM', cM, hn8, hmethM', -, -, -, -, -, -, hsigM⟩ := Cond.codeWith_spec hcode
  cases Option.some.inj (hn8.symm.trans hnamed)
  cases hmethM.symm.trans hmethM'
  obtain ⟨c2, r2, m2, q1, q2, q3, q4, kP, hkP, hkPi⟩ := Cond.selects_spec hsel
  cases hcls.symm.trans q1
  cases (State.methodFound?_of_named hnamed hy).symm.trans q2
  cases hnamed.symm.trans q3
  have hselP : selectMethod e.platform s.vm cellB.cls mk = .method mk := by rw [Launch.admits_selectMethod X.admits]; exact q4
  obtain ⟨vm₁, X₁, hstep₁⟩ := X.invokevirtual hexec hown hlink hnamed hmethM hstM hkP hkPi hy (a := b) (cell := cellB) hcell
    (fun z h => by rw [h] at hobj; cases hobj) hselP hmethM habM hkP hkPi (g := g) hg (argsL := argsL) (rest := rest) (hlen _ hsigM) hstack hdg
  rcases hK m meth c ⟨T.setVm vm₁, locs, cells, slots⟩ { g with stack := rest } (.invokevirtual index) mk (Value.ref b :: argsL).toArray X₁ hg hsize hdg hW (X₁.named hnamed) (hpre vm₁ X₁.warmed) with ⟨v, B, X', hpost, hsteps⟩ | ⟨q, B, X', hpost, hsteps⟩
  · exact Or.inl ⟨v, vm₁, B, X₁.warmed, X', hpost, fun target h => hstep₁ _ fun acts => by rw [doInvoke_state]; exact hsteps.trans h⟩
  · exact Or.inr ⟨q, vm₁, B, X₁.warmed, X', hpost, hstep₁ _ fun acts => by rw [doInvoke_state]; exact hsteps⟩
theorem vx_callSX (X : Stand p l e R s m args below meth c T locs cells slots) (hexec : p.tables.exec = Jvm.exec) {own : String} {index : Nat} {y : MethodName} {bytes : ByteArray} {maxL : Nat} {ret : Option FieldType} {hh : List (Nat × Nat × Nat × Nat)}
    (hown : s.vm.findClass own = some m.cls) (hlink : (Cond.methodLink own index y).before args s = true) (hstat : (Cond.static y).before args s = true) (hinit : (Cond.initialized y.cls).before args s = true)
    (hcode : (Cond.codeWith y bytes maxL ret hh).before args s = true) (hy : y.cls ≠ "java/lang/invoke/MethodHandle" ∧ y.cls ≠ "java/lang/invoke/VarHandle")
    {W9 : Nat} {Pre : Pt → Array Value → Prop} {Post : Pt → Array Value → Option Value → Pt → Prop} {PostX : Pt → Array Value → Addr → Pt → Prop} (hK : vx_Back l R p e below s args y 3 W9 Pre Post PostX)
    {g : JFrame} (hg : g.method = m) (hsize : g.locals.size = c.maxLocals) {argsL rest : List Value} (hlen : ∀ sig, parseMethodDescriptor y.desc = some sig → argsL.length = sig.parameters.length)
    (hstack : g.stack = argsL.reverse ++ rest) (hW : 2 * g.monitorRoom + (rest.map fun v => v.category).sum ≤ W9) (hdg : decode c.code g.pc = .ok (.invokestatic index, 3))
    (hpre : ∀ vm₁, s.WarmedH vm₁ → Pre ⟨T.setVm vm₁, locs, cells, slots⟩ argsL.toArray) :
    (∃ (v : Option Value) (vm₁ : Vm) (B : Pt), s.WarmedH vm₁ ∧ Stand p l e R s m args below meth c B.U B.locs B.cells B.slots ∧ Post ⟨T.setVm vm₁, locs, cells, slots⟩ argsL.toArray v B ∧
      ∀ target, Steps p.tables e below (B.U.setTop { g with pc := g.pc + 3, stack := v.toList ++ rest }) target → Steps p.tables e below (T.setTop g) target) ∨
    (∃ (q : Addr) (vm₁ : Vm) (B : Pt), s.WarmedH vm₁ ∧ Stand p l e R s m args below meth c B.U B.locs B.cells B.slots ∧ PostX ⟨T.setVm vm₁, locs, cells, slots⟩ argsL.toArray q B ∧
      Steps p.tables e below (T.setTop g) ((B.U.setTop { g with stack := rest }).pushFrame (.throwing q))) := by
  obtain ⟨mk, methM, cM, hnamed, hmethM, -, -, -, -, -, -, hsigM⟩ := Cond.codeWith_spec hcode
  have hstatic : methM.isStatic = true := Cond.static_spec hnamed hmethM hstat
  obtain ⟨kP, hkP, -⟩ := className_of_methodNamed hnamed
  have hinitP : kP.init = .initialized := Cond.initialized_spec (findClass_of_methodNamed hnamed) hkP hinit
  obtain ⟨vm₁, X₁, hstep₁⟩ := X.invokestatic hexec hown hlink hnamed hmethM hstatic hkP hinitP hy (g := g) hg (argsL := argsL) (rest := rest) (hlen _ hsigM) hstack hdg
  rcases hK m meth c ⟨T.setVm vm₁, locs, cells, slots⟩ { g with stack := rest } (.invokestatic index) mk argsL.toArray X₁ hg hsize hdg hW (X₁.named hnamed) (hpre vm₁ X₁.warmed) with ⟨v, B, X', hpost, hsteps⟩ | ⟨q, B, X', hpost, hsteps⟩
  · exact Or.inl ⟨v, vm₁, B, X₁.warmed, X', hpost, fun target h => hstep₁ _ fun acts => by rw [doInvoke_state]; exact hsteps.trans h⟩
  · exact Or.inr ⟨q, vm₁, B, X₁.warmed, X', hpost, hstep₁ _ fun acts => by rw [doInvoke_state]; exact hsteps⟩
theorem vx_callVW (X : Stand p l e R s m args below meth c T locs cells slots) (hexec : p.tables.exec = Jvm.exec) {own C : String} {index : Nat} {y : MethodName} {bytes : ByteArray} {maxL : Nat} {ret : Option FieldType} {hh : List (Nat × Nat × Nat × Nat)}
    (hown : s.vm.findClass own = some m.cls) (hlink : (Cond.methodLink own index y).before args s = true) (hinst : (Cond.instanceMethod y).before args s = true) (hsel : (Cond.selects C y y).before args s = true)
    (hcode : (Cond.codeWith y bytes maxL ret hh).before args s = true) (hy : y.cls ≠ "java/lang/invoke/MethodHandle" ∧ y.cls ≠ "java/lang/invoke/VarHandle")
    {W9 : Nat} {Pre : Pt → Array Value → Prop} {Post : Pt → Array Value → Option Value → Pt → Prop} (hK : Back l R p e below s args y 3 W9 Pre Post)
    {b : Addr} {cellB : Cell} (hcell : T.heap[b]? = some cellB) (hobj : cellB.vm.isStatics = false) (hcls : s.vm.findClass C = some cellB.cls)
    {g : JFrame} (hg : g.method = m) (hsize : g.locals.size = c.maxLocals) {argsL rest : List Value} (hlen : ∀ sig, parseMethodDescriptor y.desc = some sig → argsL.length = sig.parameters.length)
    (hstack : g.stack = argsL.reverse ++ .ref b :: rest) (hW : 2 * g.monitorRoom + (rest.map fun v => v.category).sum ≤ W9) (hdg : decode c.code g.pc = .ok (.invokevirtual index, 3))
    (hpre : ∀ vm₁, s.WarmedH vm₁ → Pre ⟨T.setVm vm₁, locs, cells, slots⟩ (Value.ref b :: argsL).toArray) :
    ∃ (v : Option Value) (vm₁ : Vm) (B : Pt), s.WarmedH vm₁ ∧ Stand p l e R s m args below meth c B.U B.locs B.cells B.slots ∧ Post ⟨T.setVm vm₁, locs, cells, slots⟩ (Value.ref b :: argsL).toArray v B ∧
      ∀ target, Steps p.tables e below (B.U.setTop { g with pc := g.pc + 3, stack := v.toList ++ rest }) target → Steps p.tables e below (T.setTop g) target := by
  obtain ⟨mk, methM, hnamed, hmethM, hstM, habM⟩ := Cond.instanceMethod_spec hinst
  obtain ⟨m8, methM', cM, hn8, hmethM', -, -, -, -, -, -, hsigM⟩ := Cond.codeWith_spec hcode
  cases Option.some.inj (hn8.symm.trans hnamed)
  cases hmethM.symm.trans hmethM'
  obtain ⟨c2, r2, m2, q1, q2, q3, q4, kP, hkP, hkPi⟩ := Cond.selects_spec hsel
  cases hcls.symm.trans q1
  cases (State.methodFound?_of_named hnamed hy).symm.trans q2
  cases hnamed.symm.trans q3
  have hselP : selectMethod e.platform s.vm cellB.cls mk = .method mk := by rw [Launch.admits_selectMethod X.admits]; exact q4
  obtain ⟨vm₁, X₁, hstep₁⟩ := X.invokevirtual hexec hown hlink hnamed hmethM hstM hkP hkPi hy (a := b) (cell := cellB) hcell
    (fun z h => by rw [h] at hobj; cases hobj) hselP hmethM habM hkP hkPi (g := g) hg (argsL := argsL) (rest := rest) (hlen _ hsigM) hstack hdg
  obtain ⟨v, B, X', hpost, hsteps⟩ := hK m meth c ⟨T.setVm vm₁, locs, cells, slots⟩ { g with stack := rest } (.invokevirtual index) mk (Value.ref b :: argsL).toArray X₁ hg hsize hdg hW (X₁.named hnamed) (hpre vm₁ X₁.warmed)
  exact ⟨v, vm₁, B, X₁.warmed, X', hpost, fun target h => hstep₁ _ fun acts => by rw [doInvoke_state]; exact hsteps.trans h⟩
abbrev vx_CVW (R : Room) (s : State) (args : Array Value) (own C : String) (index : Nat) (y : MethodName) (bytes : ByteArray) (maxL : Nat) (ret : Option FieldType) (hh : List (Nat × Nat × Nat × Nat)) (ws : List Cond) (rm : Room) (mc ms n : Nat) : Prop :=
  (rm.cells = mc ∧ rm.slots = ms ∧ rm.frames + 1 ≤ R.frames ∧ 8 + (maxL + 11) + rm.locals ≤ R.locals ∧ (∀ w ∈ ws, ∀ (a' : Array Value) (U : State), s.WarmedH U.vm → w.before a' U = true) ∧ Cond.codeWith y bytes maxL ret hh ∈ ws) ∧
  (Cond.codeWith y bytes maxL ret hh).before args s = true ∧ (Cond.initialized y.cls).before args s = true ∧ (y.cls ≠ "java/lang/invoke/MethodHandle" ∧ y.cls ≠ "java/lang/invoke/VarHandle") ∧
  (∀ sig, parseMethodDescriptor y.desc = some sig → n = sig.parameters.length) ∧ (Cond.methodLink own index y).before args s = true ∧ (Cond.instanceMethod y).before args s = true ∧ (Cond.selects C y y).before args s = true
theorem vx_cwVW {own C : String} {index maxL mc ms : Nat} {y : MethodName} {bytes : ByteArray} {ret : Option FieldType} {hh : List (Nat × Nat × Nat × Nat)} {Ts ws ws' : List Cond} {rm : Room} (n : Nat) (ht : ∀ w ∈ Ts, w.before args s = true) (hT : GoodIn Ts (wsV own index C y ws)) (hw : ws = Cond.codeWith y bytes maxL ret hh :: ws') (hrc : rm.cells = mc) (hrs : rm.slots = ms)
    (hd : y.cls = C ∧ y.cls ≠ "java/lang/invoke/MethodHandle" ∧ y.cls ≠ "java/lang/invoke/VarHandle" ∧ (parseMethodDescriptor y.desc).map (fun d => d.parameters.length) = some n) (hR : rm.frames + 1 ≤ R.frames ∧ 8 + (maxL + 11) + rm.locals ≤ R.locals) :
    vx_CVW R s args own C index y bytes maxL ret hh ws rm mc ms n := by
  obtain ⟨hC, hd⟩ := hd
  subst hC
  have ok : ∀ w ∈ wsV own index y.cls y ws, w.before args s = true := fun w h => ht w (hT w h).1
  have hG : GoodIn Ts ws := fun w h => hT w (by unfold wsV; exact List.mem_append_right _ h)
  have hc : Cond.codeWith y bytes maxL ret hh ∈ ws := by rw [hw]; exact List.mem_cons_self
  refine ⟨⟨hrc, hrs, hR.1, hR.2, pay_in ht hG, hc⟩, ht _ (hG _ hc).1, ok _ (by simp [wsV]), ⟨hd.1, hd.2.1⟩, fun sig h => ?_, ok _ (by simp [wsV]), ok _ (by simp [wsV]), ok _ (by simp [wsV])⟩
  have h2 := hd.2.2
  rw [h] at h2
  exact (Option.some.inj h2).symm
theorem vx_runVW {y : MethodName} {bytes cc : ByteArray} {maxL nL mc ms n index : Nat} {ret : Option FieldType} {hh : List (Nat × Nat × Nat × Nat)} {ws : List Cond} {rm : Room} {Pc : Array Value → State → Prop} {Qc : Array Value → State → Outcome → State → Prop} {free : Addr → Prop} {Ts : List Cond} {own C : String} {b : Addr} {As rest : List Value} {g : JFrame}
    (S : CallFix p m c cc nL s args Ts own) (hM : Met l y ws rm Pc Qc mc ms free) (cw : vx_CVW R s args own C index y bytes maxL ret hh ws rm mc ms n) (hp : PreV s H C b Pc As)
    (hg : g.method = m) (hn : As.length = n) (hsize : g.locals.size = nL) (hstack : g.stack = As.reverse ++ .ref b :: rest) (hW : 2 * g.monitorRoom + (rest.map fun v => v.category).sum ≤ 8) (hdg : decode cc g.pc = .ok (.invokevirtual index, 3)) (hf : cells + mc ≤ R.cells ∧ slots + ms ≤ R.slots) :
    va_Run p l e R s m args below meth c H locs cells slots mc ms g rest (Qc (Value.ref b :: As).toArray) free := by
  obtain ⟨⟨hrc, hrs, hfr, hlo, hws, hcw⟩, hcode, hini, hy, hlen, hl, hin, hse⟩ := cw
  have hK : Back l R p e below s args y 3 8 (PreOf R mc ms Pc) (PostOf Qc mc ms free) := va_backW (hh := hh) (bytes := bytes) (maxL := maxL) (ret := ret) hM hp.1 hrc hrs hfr hlo hws hcw (fun a' U hW => word_at hW (Or.inl (by first | rfl | simp [Cond.onTables, Cond.keeps, Cond.steady])) hini)
  obtain ⟨hx, hb, hml, ho, -⟩ := S
  obtain ⟨-, ⟨cellB, hcB, hoB, hclB⟩, hPc⟩ := hp
  intro T hT X
  obtain ⟨v, vm₁, ⟨U', l2, c2, s2⟩, hW₁, X', ⟨g', mk, t, L, e1, e2, hq, h1, hL, h2, h3⟩, st⟩ := vx_callVW X hx (C := C) (hh := hh) (bytes := bytes) (maxL := maxL) (ret := ret) ho hl hin hse hcode hy hK (by rw [hT]; exact hcB) hoB hclB hg (hsize.trans hml.symm) (argsL := As) (rest := rest) (fun sig h => hn.trans (hlen sig h)) hstack hW (by rw [hb]; exact hdg)
    (fun vm₁ hW₁ => ⟨hf.1, hf.2, hPc (T.setVm vm₁) hT hW₁⟩)
  dsimp only [Pt.U, Pt.locs, Pt.cells, Pt.slots] at X' e1 e2 h1 h2 h3 st
  subst h1; subst h2; subst h3
  exact ⟨v, (T.setVm vm₁).calling g' mk (Value.ref b :: As).toArray, t, U', L, hT, X', hL, e1, e2, hq, st⟩
section
variable {y : MethodName} {bytes cc : ByteArray} {maxL nL mc ms n index : Nat} {ret : Option FieldType} {ws : List Cond} {rm : Room} {Pc : Array Value → State → Prop} {Qc : Array Value → State → Outcome → State → Prop} {XC : String → State → State → Prop} {free : Addr → Prop} {Ts : List Cond} {own C : String} {b : Addr} {As rest : List Value} {g : JFrame}
theorem vx_runVX {hh : List (Nat × Nat × Nat × Nat)} (S : CallFix p m c cc nL s args Ts own) (hM : vx_Met l y ws rm Pc Qc XC mc ms free) (cw : vx_CVW R s args own C index y bytes maxL ret hh ws rm mc ms n) (hp : PreV s H C b Pc As)
    (hg : g.method = m) (hn : As.length = n) (hsize : g.locals.size = nL) (hstack : g.stack = As.reverse ++ .ref b :: rest) (hW : 2 * g.monitorRoom + (rest.map fun v => v.category).sum ≤ 8) (hdg : decode cc g.pc = .ok (.invokevirtual index, 3)) (hf : cells + mc ≤ R.cells ∧ slots + ms ≤ R.slots) :
    vx_Run p l e R s m args below meth c H locs cells slots mc ms g rest (Qc (Value.ref b :: As).toArray) XC free := by
  obtain ⟨⟨hrc, hrs, hfr, hlo, hws, hcw⟩, hcode, hini, hy, hlen, hl, hin, hse⟩ := cw
  have hK : vx_Back l R p e below s args y 3 8 (PreOf R mc ms Pc) (PostOf Qc mc ms free) (vx_Post XC mc ms free) := vx_backW (hh := hh) (bytes := bytes) (maxL := maxL) (ret := ret) hM hp.1 hrc hrs hfr hlo hws hcw (fun a' U hW => word_at hW (Or.inl (by first | rfl | simp [Cond.onTables, Cond.keeps, Cond.steady])) hini)
  obtain ⟨hx, hb, hml, ho, -⟩ := S
  obtain ⟨-, ⟨cellB, hcB, hoB, hclB⟩, hPc⟩ := hp
  intro T hT X
  rcases vx_callVX X hx (C := C) (hh := hh) (bytes := bytes) (maxL := maxL) (ret := ret) ho hl hin hse hcode hy hK (by rw [hT]; exact hcB) hoB hclB hg (hsize.trans hml.symm) (argsL := As) (rest := rest) (fun sig h => hn.trans (hlen sig h)) hstack hW (by rw [hb]; exact hdg)
    (fun vm₁ hW₁ => ⟨hf.1, hf.2, hPc (T.setVm vm₁) hT hW₁⟩) with ⟨v, vm₁, ⟨U', l2, c2, s2⟩, hW₁, X', ⟨g', mk, t, L, e1, e2, hq, h1, hL, h2, h3⟩, st⟩ | ⟨q, vm₁, ⟨U', l2, c2, s2⟩, hW₁, X', ⟨g', mk, t, L, E, ce, e1, e2, hq, hce, hcv, hcl, h1, hL, h2, h3⟩, st⟩
  · dsimp only [Pt.U, Pt.locs, Pt.cells, Pt.slots] at X' e1 e2 h1 h2 h3 st
    subst h1; subst h2; subst h3
    exact Or.inl ⟨v, (T.setVm vm₁).calling g' mk (Value.ref b :: As).toArray, t, U', L, hT, X', hL, e1, e2, hq, st⟩
  · dsimp only [Pt.U, Pt.locs, Pt.cells, Pt.slots] at X' e1 e2 h1 h2 h3 st hcl
    subst h1; subst h2; subst h3
    exact Or.inr ⟨q, (T.setVm vm₁).calling g' mk (Value.ref b :: As).toArray, t, U', L, E, ce, hT, X', hL, e1, e2, hq, hce, hcv, vx_cls hW₁ hcl, st⟩
theorem vx_runSX {hh : List (Nat × Nat × Nat × Nat)} (S : CallFix p m c cc nL s args Ts own) (hM : vx_Met l y ws rm Pc Qc XC mc ms free) (cw : vx_CSW R s args own index y bytes maxL ret hh ws rm mc ms n) (hp : PreS s H Pc As)
    (hg : g.method = m) (hn : As.length = n) (hsize : g.locals.size = nL) (hstack : g.stack = As.reverse ++ rest) (hW : 2 * g.monitorRoom + (rest.map fun v => v.category).sum ≤ 8) (hdg : decode cc g.pc = .ok (.invokestatic index, 3)) (hf : cells + mc ≤ R.cells ∧ slots + ms ≤ R.slots) :
    vx_Run p l e R s m args below meth c H locs cells slots mc ms g rest (Qc As.toArray) XC free := by
  obtain ⟨⟨hrc, hrs, hfr, hlo, hws, hcw⟩, hcode, hini, hy, hlen, hl, hstt⟩ := cw
  have hK : vx_Back l R p e below s args y 3 8 (PreOf R mc ms Pc) (PostOf Qc mc ms free) (vx_Post XC mc ms free) := vx_backW (hh := hh) (bytes := bytes) (maxL := maxL) (ret := ret) hM hp.1 hrc hrs hfr hlo hws hcw (fun a' U hW => word_at hW (Or.inl (by first | rfl | simp [Cond.onTables, Cond.keeps, Cond.steady])) hini)
  obtain ⟨hx, hb, hml, ho, -⟩ := S
  intro T hT X
  rcases vx_callSX X hx (hh := hh) (bytes := bytes) (maxL := maxL) (ret := ret) ho hl hstt hini hcode hy hK hg (hsize.trans hml.symm) (argsL := As) (rest := rest) (fun sig h => hn.trans (hlen sig h)) hstack hW (by rw [hb]; exact hdg)
    (fun vm₁ hW₁ => ⟨hf.1, hf.2, hp.2 (T.setVm vm₁) hT hW₁⟩) with ⟨v, vm₁, ⟨U', l2, c2, s2⟩, hW₁, X', ⟨g', mk, t, L, e1, e2, hq, h1, hL, h2, h3⟩, st⟩ | ⟨q, vm₁, ⟨U', l2, c2, s2⟩, hW₁, X', ⟨g', mk, t, L, E, ce, e1, e2, hq, hce, hcv, hcl, h1, hL, h2, h3⟩, st⟩
  · dsimp only [Pt.U, Pt.locs, Pt.cells, Pt.slots] at X' e1 e2 h1 h2 h3 st
    subst h1; subst h2; subst h3
    exact Or.inl ⟨v, (T.setVm vm₁).calling g' mk As.toArray, t, U', L, hT, X', hL, e1, e2, hq, st⟩
  · dsimp only [Pt.U, Pt.locs, Pt.cells, Pt.slots] at X' e1 e2 h1 h2 h3 st hcl
    subst h1; subst h2; subst h3
    exact Or.inr ⟨q, (T.setVm vm₁).calling g' mk As.toArray, t, U', L, E, ce, hT, X', hL, e1, e2, hq, hce, hcv, vx_cls hW₁ hcl, st⟩
end
end VXH
theorem vx_ofWH {l : Launch} {y : MethodName} {ws ws' : List Cond} {rm : Room} {Pc : Array Value → State → Prop} {Qc : Array Value → State → Outcome → State → Prop} {XC : String → State → State → Prop} {mc ms : Nat} {free : Addr → Prop} {cc : ByteArray} {maxL : Nat} {ret : Option FieldType} {hh : List (Nat × Nat × Nat × Nat)}
    (hy : plainName y.cls = true) (hw : ws = Cond.codeWith y cc maxL ret hh :: ws')
    (body : ∀ p e s m args below meth c s₁, BodyLoose p l y (headSpec ws rm) cc maxL ret e s m args below meth c s₁ → c.maxLocals = maxL → Pc args s →
      W p l e (headSpec ws rm).room s m args below meth c s.heap [] 0 0 (vx_MQ below Qc XC args s mc ms free) (entryFrame m args maxL)) : vx_Met l y ws rm Pc Qc XC mc ms free := by
  refine MetFree.of_bodyS (code := cc) (maxLocals := maxL) (ret := ret) hy ?_ ?_
  · intro args s m h hn
    obtain ⟨m9, meth, c, hn9, h1, h2, h3, h4, -, h5, h6, -⟩ := Cond.codeWith_spec (atoms_spec (ws := ws) h _ (by rw [hw]; exact List.mem_cons_self))
    cases hn.symm.trans hn9
    exact ⟨meth, c, h1, h2, h3, h4, h5, h6⟩
  · intro p e s m args below meth c s₁ B hml hP _
    have hh0 : s₁.heap = s.heap := by rw [B.state]; rfl
    obtain ⟨t, a1, o, b1, b2, b3⟩ := body p e s m args below meth c s₁ B hml hP s₁ hh0 (Stand.of_body B)
    exact ⟨t, o, a1, b1, b2, b3⟩
/-! ===== END ===== -/
end
section
def TX : u_T := fun k => match k with
  | 0 => ("EventPatterns", "eventTimes", "[I", true)
  | 1 => ("EventPatterns", "eventKinds", "[I", true)
  | 2 => ("EventPatterns", "eventValues", "[I", true)
  | 3 => ("EventPatterns", "came", "I", false)
  | 4 => ("EventPatterns", "kept", "I", false)
  | 5 => ("EventPatterns", "stepKinds", "[I", true)
  | 6 => ("EventPatterns", "stepTests", "[I", true)
  | 7 => ("EventPatterns", "stepBounds", "[I", true)
  | 8 => ("EventPatterns", "stepMany", "[Z", true)
  | 9 => ("EventPatterns", "style", "I", false)
  | 10 => ("EventPatterns", "span", "I", false)
  | 11 => ("EventPatterns", "steps", "I", false)
  | 12 => ("EventPatterns", "ways", "[[I", true)
  | 13 => ("EventPatterns", "foundPlaces", "[I", true)
  | 14 => ("EventPatterns", "foundSteps", "[I", true)
  | _ => ("EventPatterns", "foundLength", "I", false)
def tyX : Nat → FieldType := fun k => match k with
  | 0 => .array .int
  | 1 => .array .int
  | 2 => .array .int
  | 3 => .int
  | 4 => .int
  | 5 => .array .int
  | 6 => .array .int
  | 7 => .array .int
  | 8 => .array .boolean
  | 9 => .int
  | 10 => .int
  | 11 => .int
  | 12 => .array (.array .int)
  | 13 => .array .int
  | 14 => .array .int
  | _ => .int
theorem nmX : ∀ a, a < 16 → ∀ b, b < 16 → a ≠ b → (TX a).2.1 ≠ (TX b).2.1 := by decide +kernel
theorem okX : ∀ k, k < 16 → parseFieldDescriptor (TX k).2.2.1 = some (tyX k) := by decide +kernel
def TM : u_T := fun k => match k with
  | 0 => ("EventPatternsModel", "thrown", "I", false)
  | 1 => ("EventPatternsModel", "events", "I", false)
  | 2 => ("EventPatternsModel", "times", "[I", true)
  | 3 => ("EventPatternsModel", "kinds", "[I", true)
  | 4 => ("EventPatternsModel", "values", "[I", true)
  | 5 => ("EventPatternsModel", "style", "I", false)
  | 6 => ("EventPatternsModel", "span", "I", false)
  | 7 => ("EventPatternsModel", "steps", "I", false)
  | 8 => ("EventPatternsModel", "of", "[I", true)
  | 9 => ("EventPatternsModel", "tests", "[I", true)
  | 10 => ("EventPatternsModel", "least", "[I", true)
  | 11 => ("EventPatternsModel", "many", "[Z", true)
  | 12 => ("EventPatternsModel", "ways", "[I", true)
  | 13 => ("EventPatternsModel", "found", "I", false)
  | 14 => ("EventPatternsModel", "foundAt", "[I", true)
  | _ => ("EventPatternsModel", "foundStep", "[I", true)
def tyM : Nat → FieldType := fun k => match k with
  | 0 => .int
  | 1 => .int
  | 2 => .array .int
  | 3 => .array .int
  | 4 => .array .int
  | 5 => .int
  | 6 => .int
  | 7 => .int
  | 8 => .array .int
  | 9 => .array .int
  | 10 => .array .int
  | 11 => .array .boolean
  | 12 => .array .int
  | 13 => .int
  | 14 => .array .int
  | _ => .array .int
theorem nmM : ∀ a, a < 16 → ∀ b, b < 16 → a ≠ b → (TM a).2.1 ≠ (TM b).2.1 := by decide +kernel
theorem okM : ∀ k, k < 16 → parseFieldDescriptor (TM k).2.2.1 = some (tyM k) := by decide +kernel
def bw : List Cond := lw_tbl.filter goodWord
theorem bw_t (k : Nat) {w : Cond} (h : tables_1[k]? = some w) (g : goodWord w = true) : w ∈ bw := List.mem_filter.mpr ⟨List.mem_append_right _ (List.mem_of_getElem? h), g⟩
theorem bw_p (k : Nat) {w : Cond} (h : (k2_sels lw_privs)[k]? = some w) (g : goodWord w = true) : w ∈ bw := List.mem_filter.mpr ⟨List.mem_append_left _ (List.mem_of_getElem? h), g⟩
theorem bw_l {w : Cond} (h : w ∈ bw) : w ∈ lw_tbl := (List.mem_filter.mp h).1
theorem bw_g {w : Cond} (h : w ∈ bw) : (w.onTables && w.keeps) = true ∨ ∃ ty, w = .arrayClass ty := good_of_word (List.mem_filter.mp h).2
theorem bw_V {own C : String} {idx : Nat} {y : MethodName} {hc : Cond} (h1 : Cond.methodLink own idx y ∈ bw) (h2 : Cond.instanceMethod y ∈ bw) (h3 : Cond.selects C y y ∈ bw) (h4 : Cond.initialized C ∈ bw) (h5 : hc ∈ bw) : GoodIn bw (wsV own idx C y (hc :: bw)) := by
  intro w hw
  have hm : w ∈ bw := by
    simp only [wsV, List.cons_append, List.nil_append, List.mem_cons] at hw
    rcases hw with rfl | rfl | rfl | rfl | rfl | h
    · exact h1
    · exact h2
    · exact h3
    · exact h4
    · exact h5
    · exact h
  exact ⟨hm, bw_g hm⟩
theorem bw_S {own : String} {idx : Nat} {y : MethodName} {hc : Cond} (h1 : Cond.methodLink own idx y ∈ bw) (h2 : Cond.static y ∈ bw) (h4 : Cond.initialized own ∈ bw) (h5 : hc ∈ bw) : GoodIn bw (wsS own idx y (hc :: bw)) := by
  intro w hw
  have hm : w ∈ bw := by
    simp only [wsS, List.cons_append, List.nil_append, List.mem_cons] at hw
    rcases hw with rfl | rfl | rfl | rfl | h
    · exact h1
    · exact h2
    · exact h4
    · exact h5
    · exact h
  exact ⟨hm, bw_g hm⟩
theorem bw_C {hc : Cond} (h5 : hc ∈ bw) : GoodIn bw (hc :: bw) := by
  intro w hw
  have hm : w ∈ bw := by
    rcases List.mem_cons.mp hw with rfl | h
    · exact h5
    · exact h
  exact ⟨hm, bw_g hm⟩
abbrev cX_init : ByteArray := prog_1_method_1_code
def yX_init : MethodName := ⟨"EventPatterns", "<init>", "()V"⟩
abbrev hX_init : Cond := .code yX_init cX_init 1 none
def wX_init : List Cond := hX_init :: bw
theorem kcX_init : hX_init ∈ bw := bw_t 14 (by decide +kernel) (by decide +kernel)
abbrev cX_event : ByteArray := prog_1_method_2_code
def yX_event : MethodName := ⟨"EventPatterns", "event", "(III)I"⟩
abbrev hX_event : Cond := .code yX_event cX_event 4 (some .int)
def wX_event : List Cond := hX_event :: bw
theorem kcX_event : hX_event ∈ bw := bw_t 87 (by decide +kernel) (by decide +kernel)
abbrev cX_clear : ByteArray := prog_1_method_3_code
def yX_clear : MethodName := ⟨"EventPatterns", "clear", "()V"⟩
abbrev hX_clear : Cond := .code yX_clear cX_clear 1 none
def wX_clear : List Cond := hX_clear :: bw
theorem kcX_clear : hX_clear ∈ bw := bw_t 74 (by decide +kernel) (by decide +kernel)
abbrev cX_pattern : ByteArray := prog_1_method_4_code
def yX_pattern : MethodName := ⟨"EventPatterns", "pattern", "(II)V"⟩
abbrev hX_pattern : Cond := .code yX_pattern cX_pattern 3 none
def wX_pattern : List Cond := hX_pattern :: bw
theorem kcX_pattern : hX_pattern ∈ bw := bw_t 189 (by decide +kernel) (by decide +kernel)
abbrev cX_step : ByteArray := prog_1_method_5_code
def yX_step : MethodName := ⟨"EventPatterns", "step", "(IIIZ)I"⟩
abbrev hX_step : Cond := .code yX_step cX_step 5 (some .int)
def wX_step : List Cond := hX_step :: bw
theorem kcX_step : hX_step ∈ bw := bw_t 198 (by decide +kernel) (by decide +kernel)
abbrev cX_count : ByteArray := prog_1_method_6_code
def yX_count : MethodName := ⟨"EventPatterns", "count", "()I"⟩
abbrev hX_count : Cond := .code yX_count cX_count 1 (some .int)
def wX_count : List Cond := hX_count :: bw
theorem kcX_count : hX_count ∈ bw := bw_t 209 (by decide +kernel) (by decide +kernel)
abbrev cX_latest : ByteArray := prog_1_method_7_code
def yX_latest : MethodName := ⟨"EventPatterns", "latest", "()I"⟩
abbrev hX_latest : Cond := .code yX_latest cX_latest 1 (some .int)
def wX_latest : List Cond := hX_latest :: bw
theorem kcX_latest : hX_latest ∈ bw := bw_t 268 (by decide +kernel) (by decide +kernel)
abbrev cX_length : ByteArray := prog_1_method_8_code
def yX_length : MethodName := ⟨"EventPatterns", "length", "(I)I"⟩
abbrev hX_length : Cond := .code yX_length cX_length 2 (some .int)
def wX_length : List Cond := hX_length :: bw
theorem kcX_length : hX_length ∈ bw := bw_t 276 (by decide +kernel) (by decide +kernel)
abbrev cX_match : ByteArray := prog_1_method_9_code
def yX_match : MethodName := ⟨"EventPatterns", "match", "(III)I"⟩
abbrev hX_match : Cond := .code yX_match cX_match 4 (some .int)
def wX_match : List Cond := hX_match :: bw
theorem kcX_match : hX_match ∈ bw := bw_t 315 (by decide +kernel) (by decide +kernel)
abbrev cX_events : ByteArray := prog_1_method_10_code
def yX_events : MethodName := ⟨"EventPatterns", "events", "()I"⟩
abbrev hX_events : Cond := .code yX_events cX_events 1 (some .int)
def wX_events : List Cond := hX_events :: bw
theorem kcX_events : hX_events ∈ bw := bw_t 78 (by decide +kernel) (by decide +kernel)
abbrev cX_earliestTime : ByteArray := prog_1_method_11_code
def yX_earliestTime : MethodName := ⟨"EventPatterns", "earliestTime", "()I"⟩
abbrev hX_earliestTime : Cond := .code yX_earliestTime cX_earliestTime 1 (some .int)
def wX_earliestTime : List Cond := hX_earliestTime :: bw
theorem kcX_earliestTime : hX_earliestTime ∈ bw := bw_t 91 (by decide +kernel) (by decide +kernel)
abbrev cX_dropOldest : ByteArray := prog_1_method_12_code
def yX_dropOldest : MethodName := ⟨"EventPatterns", "dropOldest", "()V"⟩
abbrev hX_dropOldest : Cond := .code yX_dropOldest cX_dropOldest 2 none
def wX_dropOldest : List Cond := hX_dropOldest :: bw
theorem kcX_dropOldest : hX_dropOldest ∈ bw := bw_t 182 (by decide +kernel) (by decide +kernel)
abbrev cX_needSteps : ByteArray := prog_1_method_13_code
def yX_needSteps : MethodName := ⟨"EventPatterns", "needSteps", "()V"⟩
abbrev hX_needSteps : Cond := .code yX_needSteps cX_needSteps 1 none
def wX_needSteps : List Cond := hX_needSteps :: bw
theorem kcX_needSteps : hX_needSteps ∈ bw := bw_t 213 (by decide +kernel) (by decide +kernel)
abbrev cX_needMatch : ByteArray := prog_1_method_14_code
def yX_needMatch : MethodName := ⟨"EventPatterns", "needMatch", "(I)V"⟩
abbrev hX_needMatch : Cond := .code yX_needMatch cX_needMatch 2 none
def wX_needMatch : List Cond := hX_needMatch :: bw
theorem kcX_needMatch : hX_needMatch ∈ bw := bw_t 280 (by decide +kernel) (by decide +kernel)
abbrev cX_countEnding : ByteArray := prog_1_method_15_code
def yX_countEnding : MethodName := ⟨"EventPatterns", "countEnding", "(I)I"⟩
abbrev hX_countEnding : Cond := .code yX_countEnding cX_countEnding 4 (some .int)
def wX_countEnding : List Cond := hX_countEnding :: bw
theorem kcX_countEnding : hX_countEnding ∈ bw := bw_t 233 (by decide +kernel) (by decide +kernel)
abbrev cX_waysFrom : ByteArray := prog_1_method_16_code
def yX_waysFrom : MethodName := ⟨"EventPatterns", "waysFrom", "(II)I"⟩
abbrev hX_waysFrom : Cond := .code yX_waysFrom cX_waysFrom 5 (some .int)
def wX_waysFrom : List Cond := hX_waysFrom :: bw
theorem kcX_waysFrom : hX_waysFrom ∈ bw := bw_t 237 (by decide +kernel) (by decide +kernel)
abbrev cX_waysOn : ByteArray := prog_1_method_17_code
def yX_waysOn : MethodName := ⟨"EventPatterns", "waysOn", "(IIII)I"⟩
abbrev hX_waysOn : Cond := .code yX_waysOn cX_waysOn 7 (some .int)
def wX_waysOn : List Cond := hX_waysOn :: bw
theorem kcX_waysOn : hX_waysOn ∈ bw := bw_t 245 (by decide +kernel) (by decide +kernel)
abbrev cX_isLastStep : ByteArray := prog_1_method_18_code
def yX_isLastStep : MethodName := ⟨"EventPatterns", "isLastStep", "(I)Z"⟩
abbrev hX_isLastStep : Cond := .code yX_isLastStep cX_isLastStep 2 (some .boolean)
def wX_isLastStep : List Cond := hX_isLastStep :: bw
theorem kcX_isLastStep : hX_isLastStep ∈ bw := bw_t 249 (by decide +kernel) (by decide +kernel)
abbrev cX_mayFollow : ByteArray := prog_1_method_19_code
def yX_mayFollow : MethodName := ⟨"EventPatterns", "mayFollow", "(III)Z"⟩
abbrev hX_mayFollow : Cond := .code yX_mayFollow cX_mayFollow 4 (some .boolean)
def wX_mayFollow : List Cond := hX_mayFollow :: bw
theorem kcX_mayFollow : hX_mayFollow ∈ bw := bw_t 253 (by decide +kernel) (by decide +kernel)
abbrev cX_waysBySameStep : ByteArray := prog_1_method_20_code
def yX_waysBySameStep : MethodName := ⟨"EventPatterns", "waysBySameStep", "(IIII)I"⟩
abbrev hX_waysBySameStep : Cond := .code yX_waysBySameStep cX_waysBySameStep 5 (some .int)
def wX_waysBySameStep : List Cond := hX_waysBySameStep :: bw
theorem kcX_waysBySameStep : hX_waysBySameStep ∈ bw := bw_t 257 (by decide +kernel) (by decide +kernel)
abbrev cX_waysByNextStep : ByteArray := prog_1_method_21_code
def yX_waysByNextStep : MethodName := ⟨"EventPatterns", "waysByNextStep", "(IIII)I"⟩
abbrev hX_waysByNextStep : Cond := .code yX_waysByNextStep cX_waysByNextStep 5 (some .int)
def wX_waysByNextStep : List Cond := hX_waysByNextStep :: bw
theorem kcX_waysByNextStep : hX_waysByNextStep ∈ bw := bw_t 261 (by decide +kernel) (by decide +kernel)
abbrev cX_fits : ByteArray := prog_1_method_22_code
def yX_fits : MethodName := ⟨"EventPatterns", "fits", "(IIII)Z"⟩
abbrev hX_fits : Cond := .code yX_fits cX_fits 6 (some .boolean)
def wX_fits : List Cond := hX_fits :: bw
theorem kcX_fits : hX_fits ∈ bw := bw_t 241 (by decide +kernel) (by decide +kernel)
abbrev cX_find : ByteArray := prog_1_method_23_code
def yX_find : MethodName := ⟨"EventPatterns", "find", "(I)Z"⟩
abbrev hX_find : Cond := .code yX_find cX_find 5 (some .boolean)
def wX_find : List Cond := hX_find :: bw
theorem kcX_find : hX_find ∈ bw := bw_t 284 (by decide +kernel) (by decide +kernel)
abbrev cX_walk : ByteArray := prog_1_method_24_code
def yX_walk : MethodName := ⟨"EventPatterns", "walk", "(II)V"⟩
abbrev hX_walk : Cond := .code yX_walk cX_walk 9 none
def wX_walk : List Cond := hX_walk :: bw
theorem kcX_walk : hX_walk ∈ bw := bw_t 288 (by decide +kernel) (by decide +kernel)
abbrev cX_addFound : ByteArray := prog_1_method_25_code
def yX_addFound : MethodName := ⟨"EventPatterns", "addFound", "(II)V"⟩
abbrev hX_addFound : Cond := .code yX_addFound cX_addFound 3 none
def wX_addFound : List Cond := hX_addFound :: bw
theorem kcX_addFound : hX_addFound ∈ bw := bw_t 292 (by decide +kernel) (by decide +kernel)
abbrev cM_init : ByteArray := prog_3_method_1_code
def yM_init : MethodName := ⟨"EventPatternsModel", "<init>", "()V"⟩
abbrev hM_init : Cond := .code yM_init cM_init 1 none
def wM_init : List Cond := hM_init :: bw
theorem kcM_init : hM_init ∈ bw := bw_t 322 (by decide +kernel) (by decide +kernel)
abbrev cM_thrown : ByteArray := prog_3_method_2_code
def yM_thrown : MethodName := ⟨"EventPatternsModel", "thrown", "()I"⟩
abbrev hM_thrown : Cond := .code yM_thrown cM_thrown 1 (some .int)
def wM_thrown : List Cond := hM_thrown :: bw
theorem kcM_thrown : hM_thrown ∈ bw := bw_t 376 (by decide +kernel) (by decide +kernel)
abbrev cM_refuse : ByteArray := prog_3_method_3_code
def yM_refuse : MethodName := ⟨"EventPatternsModel", "refuse", "(ZZZ)Z"⟩
abbrev hM_refuse : Cond := .code yM_refuse cM_refuse 4 (some .boolean)
def wM_refuse : List Cond := hM_refuse :: bw
theorem kcM_refuse : hM_refuse ∈ bw := bw_t 388 (by decide +kernel) (by decide +kernel)
abbrev cM_in : ByteArray := prog_3_method_4_code
def yM_in : MethodName := ⟨"EventPatternsModel", "in", "(III)Z"⟩
abbrev hM_in : Cond := .code yM_in cM_in 3 (some .boolean)
def wM_in : List Cond := hM_in :: bw
theorem kcM_in : hM_in ∈ bw := bw_t 384 (by decide +kernel) (by decide +kernel)
abbrev cM_event : ByteArray := prog_3_method_5_code
def yM_event : MethodName := ⟨"EventPatternsModel", "event", "(III)I"⟩
abbrev hM_event : Cond := .code yM_event cM_event 5 (some .int)
def wM_event : List Cond := hM_event :: bw
theorem kcM_event : hM_event ∈ bw := bw_t 380 (by decide +kernel) (by decide +kernel)
abbrev cM_clear : ByteArray := prog_3_method_6_code
def yM_clear : MethodName := ⟨"EventPatternsModel", "clear", "()V"⟩
abbrev hM_clear : Cond := .code yM_clear cM_clear 1 none
def wM_clear : List Cond := hM_clear :: bw
theorem kcM_clear : hM_clear ∈ bw := bw_t 392 (by decide +kernel) (by decide +kernel)
abbrev cM_pattern : ByteArray := prog_3_method_7_code
def yM_pattern : MethodName := ⟨"EventPatternsModel", "pattern", "(II)V"⟩
abbrev hM_pattern : Cond := .code yM_pattern cM_pattern 3 none
def wM_pattern : List Cond := hM_pattern :: bw
theorem kcM_pattern : hM_pattern ∈ bw := bw_t 396 (by decide +kernel) (by decide +kernel)
abbrev cM_step : ByteArray := prog_3_method_8_code
def yM_step : MethodName := ⟨"EventPatternsModel", "step", "(IIIZ)I"⟩
abbrev hM_step : Cond := .code yM_step cM_step 6 (some .int)
def wM_step : List Cond := hM_step :: bw
theorem kcM_step : hM_step ∈ bw := bw_t 400 (by decide +kernel) (by decide +kernel)
abbrev cM_from : ByteArray := prog_3_method_9_code
def yM_from : MethodName := ⟨"EventPatternsModel", "from", "()I"⟩
abbrev hM_from : Cond := .code yM_from cM_from 1 (some .int)
def wM_from : List Cond := hM_from :: bw
theorem kcM_from : hM_from ∈ bw := bw_t 412 (by decide +kernel) (by decide +kernel)
abbrev cM_fits : ByteArray := prog_3_method_10_code
def yM_fits : MethodName := ⟨"EventPatternsModel", "fits", "(IIII)Z"⟩
abbrev hM_fits : Cond := .code yM_fits cM_fits 6 (some .boolean)
def wM_fits : List Cond := hM_fits :: bw
theorem kcM_fits : hM_fits ∈ bw := bw_t 416 (by decide +kernel) (by decide +kernel)
abbrev cM_waysFrom : ByteArray := prog_3_method_11_code
def yM_waysFrom : MethodName := ⟨"EventPatternsModel", "waysFrom", "(IIIZ)I"⟩
abbrev hM_waysFrom : Cond := .code yM_waysFrom cM_waysFrom 13 (some .int)
def wM_waysFrom : List Cond := hM_waysFrom :: bw
theorem kcM_waysFrom : hM_waysFrom ∈ bw := bw_t 420 (by decide +kernel) (by decide +kernel)
abbrev cM_all : ByteArray := prog_3_method_12_code
def yM_all : MethodName := ⟨"EventPatternsModel", "all", "(Z)I"⟩
abbrev hM_all : Cond := .code yM_all cM_all 4 (some .int)
def wM_all : List Cond := hM_all :: bw
theorem kcM_all : hM_all ∈ bw := bw_t 408 (by decide +kernel) (by decide +kernel)
abbrev cM_count : ByteArray := prog_3_method_13_code
def yM_count : MethodName := ⟨"EventPatternsModel", "count", "()I"⟩
abbrev hM_count : Cond := .code yM_count cM_count 1 (some .int)
def wM_count : List Cond := hM_count :: bw
theorem kcM_count : hM_count ∈ bw := bw_t 404 (by decide +kernel) (by decide +kernel)
abbrev cM_latest : ByteArray := prog_3_method_14_code
def yM_latest : MethodName := ⟨"EventPatternsModel", "latest", "()I"⟩
abbrev hM_latest : Cond := .code yM_latest cM_latest 1 (some .int)
def wM_latest : List Cond := hM_latest :: bw
theorem kcM_latest : hM_latest ∈ bw := bw_t 424 (by decide +kernel) (by decide +kernel)
abbrev cM_notes : ByteArray := prog_3_method_15_code
def yM_notes : MethodName := ⟨"EventPatternsModel", "notes", "(II)V"⟩
abbrev hM_notes : Cond := .code yM_notes cM_notes 3 none
def wM_notes : List Cond := hM_notes :: bw
theorem kcM_notes : hM_notes ∈ bw := bw_t 436 (by decide +kernel) (by decide +kernel)
abbrev cM_find : ByteArray := prog_3_method_16_code
def yM_find : MethodName := ⟨"EventPatternsModel", "find", "(I)Z"⟩
abbrev hM_find : Cond := .code yM_find cM_find 12 (some .boolean)
def wM_find : List Cond := hM_find :: bw
theorem kcM_find : hM_find ∈ bw := bw_t 432 (by decide +kernel) (by decide +kernel)
abbrev cM_length : ByteArray := prog_3_method_17_code
def yM_length : MethodName := ⟨"EventPatternsModel", "length", "(I)I"⟩
abbrev hM_length : Cond := .code yM_length cM_length 4 (some .int)
def wM_length : List Cond := hM_length :: bw
theorem kcM_length : hM_length ∈ bw := bw_t 428 (by decide +kernel) (by decide +kernel)
abbrev cM_match : ByteArray := prog_3_method_18_code
def yM_match : MethodName := ⟨"EventPatternsModel", "match", "(III)I"⟩
abbrev hM_match : Cond := .code yM_match cM_match 6 (some .int)
def wM_match : List Cond := hM_match :: bw
theorem kcM_match : hM_match ∈ bw := bw_t 440 (by decide +kernel) (by decide +kernel)
abbrev cM_events : ByteArray := prog_3_method_19_code
def yM_events : MethodName := ⟨"EventPatternsModel", "events", "()I"⟩
abbrev hM_events : Cond := .code yM_events cM_events 1 (some .int)
def wM_events : List Cond := hM_events :: bw
theorem kcM_events : hM_events ∈ bw := bw_t 444 (by decide +kernel) (by decide +kernel)
abbrev cL_event : ByteArray := method_3_code
def yL_event : MethodName := ⟨"EventPatternsLaw", "event", "(LEventPatterns;III[J)I"⟩
abbrev hL_event : Cond := .codeWith yL_event cL_event 6 (some .int) [(0, 12, 15, 13), (0, 12, 19, 15)]
def wL_event : List Cond := hL_event :: bw
theorem kcL_event : hL_event ∈ bw := bw_t 81 (by decide +kernel) (by decide +kernel)
abbrev cL_pattern : ByteArray := method_4_code
def yL_pattern : MethodName := ⟨"EventPatternsLaw", "pattern", "(LEventPatterns;II)I"⟩
abbrev hL_pattern : Cond := .codeWith yL_pattern cL_pattern 4 (some .int) [(0, 6, 9, 13)]
def wL_pattern : List Cond := hL_pattern :: bw
theorem kcL_pattern : hL_pattern ∈ bw := bw_t 185 (by decide +kernel) (by decide +kernel)
abbrev cL_step : ByteArray := method_5_code
def yL_step : MethodName := ⟨"EventPatternsLaw", "step", "(LEventPatterns;IIIZ[J)I"⟩
abbrev hL_step : Cond := .codeWith yL_step cL_step 7 (some .int) [(0, 14, 17, 13), (0, 14, 21, 15)]
def wL_step : List Cond := hL_step :: bw
theorem kcL_step : hL_step ∈ bw := bw_t 194 (by decide +kernel) (by decide +kernel)
abbrev cL_count : ByteArray := method_6_code
def yL_count : MethodName := ⟨"EventPatternsLaw", "count", "(LEventPatterns;[J)I"⟩
abbrev hL_count : Cond := .codeWith yL_count cL_count 3 (some .int) [(0, 8, 11, 29)]
def wL_count : List Cond := hL_count :: bw
theorem kcL_count : hL_count ∈ bw := bw_t 204 (by decide +kernel) (by decide +kernel)
abbrev cL_latest : ByteArray := method_7_code
def yL_latest : MethodName := ⟨"EventPatternsLaw", "latest", "(LEventPatterns;[J)I"⟩
abbrev hL_latest : Cond := .codeWith yL_latest cL_latest 3 (some .int) [(0, 8, 11, 29)]
def wL_latest : List Cond := hL_latest :: bw
theorem kcL_latest : hL_latest ∈ bw := bw_t 264 (by decide +kernel) (by decide +kernel)
abbrev cL_length : ByteArray := method_8_code
def yL_length : MethodName := ⟨"EventPatternsLaw", "length", "(LEventPatterns;I[J)I"⟩
abbrev hL_length : Cond := .codeWith yL_length cL_length 4 (some .int) [(0, 9, 12, 29), (0, 9, 15, 38)]
def wL_length : List Cond := hL_length :: bw
theorem kcL_length : hL_length ∈ bw := bw_t 271 (by decide +kernel) (by decide +kernel)
abbrev cL_match : ByteArray := method_9_code
def yL_match : MethodName := ⟨"EventPatternsLaw", "match", "(LEventPatterns;III[J)I"⟩
abbrev hL_match : Cond := .codeWith yL_match cL_match 6 (some .int) [(0, 12, 15, 29), (0, 12, 19, 38), (0, 12, 23, 13)]
def wL_match : List Cond := hL_match :: bw
theorem kcL_match : hL_match ∈ bw := bw_t 311 (by decide +kernel) (by decide +kernel)
abbrev cL_law : ByteArray := code
theorem ki_EventPatternsLaw : Cond.initialized "EventPatternsLaw" ∈ bw := bw_t 0 (by decide +kernel) (by decide +kernel)
theorem ki_EventPatterns : Cond.initialized "EventPatterns" ∈ bw := bw_t 1 (by decide +kernel) (by decide +kernel)
theorem ki_EventPatternsModel : Cond.initialized "EventPatternsModel" ∈ bw := bw_t 2 (by decide +kernel) (by decide +kernel)
theorem ki_java_lang_Throwable : Cond.initialized "java/lang/Throwable" ∈ bw := bw_t 3 (by decide +kernel) (by decide +kernel)
theorem ki_java_lang_Exception : Cond.initialized "java/lang/Exception" ∈ bw := bw_t 4 (by decide +kernel) (by decide +kernel)
theorem ki_java_lang_RuntimeException : Cond.initialized "java/lang/RuntimeException" ∈ bw := bw_t 5 (by decide +kernel) (by decide +kernel)
theorem ki_java_lang_IllegalArgumentException : Cond.initialized "java/lang/IllegalArgumentException" ∈ bw := bw_t 6 (by decide +kernel) (by decide +kernel)
theorem ki_java_lang_UnsupportedOperationException : Cond.initialized "java/lang/UnsupportedOperationException" ∈ bw := bw_t 7 (by decide +kernel) (by decide +kernel)
theorem ki_java_lang_IllegalStateException : Cond.initialized "java/lang/IllegalStateException" ∈ bw := bw_t 8 (by decide +kernel) (by decide +kernel)
theorem ki_java_lang_IndexOutOfBoundsException : Cond.initialized "java/lang/IndexOutOfBoundsException" ∈ bw := bw_t 9 (by decide +kernel) (by decide +kernel)
theorem kl_L_8 : Cond.classLink "EventPatternsLaw" 8 "EventPatterns" ∈ bw := bw_t 10 (by decide +kernel) (by decide +kernel)
theorem kn_EventPatterns : Cond.instantiable "EventPatterns" 16 ∈ bw := bw_t 11 (by decide +kernel) (by decide +kernel)
theorem km_L_43 : Cond.methodLink "EventPatternsLaw" 43 yX_init ∈ bw := bw_t 12 (by decide +kernel) (by decide +kernel)
theorem ki_yX_init : Cond.instanceMethod yX_init ∈ bw := bw_t 13 (by decide +kernel) (by decide +kernel)
theorem km_X_1 : Cond.methodLink "EventPatterns" 1 objectInit ∈ bw := bw_t 15 (by decide +kernel) (by decide +kernel)
theorem ki_objectInit : Cond.instanceMethod objectInit ∈ bw := bw_t 16 (by decide +kernel) (by decide +kernel)
theorem kl_X_32 : Cond.classLink "EventPatterns" 32 "[[I" ∈ bw := bw_t 18 (by decide +kernel) (by decide +kernel)
theorem kf_X_9 : Cond.fieldLink "EventPatterns" 9 "EventPatterns" "eventTimes" "[I" ∈ bw := bw_t 20 (by decide +kernel) (by decide +kernel)
theorem kf_X_13 : Cond.fieldLink "EventPatterns" 13 "EventPatterns" "eventKinds" "[I" ∈ bw := bw_t 21 (by decide +kernel) (by decide +kernel)
theorem kf_X_16 : Cond.fieldLink "EventPatterns" 16 "EventPatterns" "eventValues" "[I" ∈ bw := bw_t 22 (by decide +kernel) (by decide +kernel)
theorem kf_X_43 : Cond.fieldLink "EventPatterns" 43 "EventPatterns" "came" "I" ∈ bw := bw_t 23 (by decide +kernel) (by decide +kernel)
theorem kf_X_47 : Cond.fieldLink "EventPatterns" 47 "EventPatterns" "kept" "I" ∈ bw := bw_t 24 (by decide +kernel) (by decide +kernel)
theorem kf_X_19 : Cond.fieldLink "EventPatterns" 19 "EventPatterns" "stepKinds" "[I" ∈ bw := bw_t 25 (by decide +kernel) (by decide +kernel)
theorem kf_X_22 : Cond.fieldLink "EventPatterns" 22 "EventPatterns" "stepTests" "[I" ∈ bw := bw_t 26 (by decide +kernel) (by decide +kernel)
theorem kf_X_25 : Cond.fieldLink "EventPatterns" 25 "EventPatterns" "stepBounds" "[I" ∈ bw := bw_t 27 (by decide +kernel) (by decide +kernel)
theorem kf_X_28 : Cond.fieldLink "EventPatterns" 28 "EventPatterns" "stepMany" "[Z" ∈ bw := bw_t 28 (by decide +kernel) (by decide +kernel)
theorem kf_X_50 : Cond.fieldLink "EventPatterns" 50 "EventPatterns" "style" "I" ∈ bw := bw_t 29 (by decide +kernel) (by decide +kernel)
theorem kf_X_53 : Cond.fieldLink "EventPatterns" 53 "EventPatterns" "span" "I" ∈ bw := bw_t 30 (by decide +kernel) (by decide +kernel)
theorem kf_X_56 : Cond.fieldLink "EventPatterns" 56 "EventPatterns" "steps" "I" ∈ bw := bw_t 31 (by decide +kernel) (by decide +kernel)
theorem kf_X_34 : Cond.fieldLink "EventPatterns" 34 "EventPatterns" "ways" "[[I" ∈ bw := bw_t 32 (by decide +kernel) (by decide +kernel)
theorem kf_X_37 : Cond.fieldLink "EventPatterns" 37 "EventPatterns" "foundPlaces" "[I" ∈ bw := bw_t 33 (by decide +kernel) (by decide +kernel)
theorem kf_X_40 : Cond.fieldLink "EventPatterns" 40 "EventPatterns" "foundSteps" "[I" ∈ bw := bw_t 34 (by decide +kernel) (by decide +kernel)
theorem kf_X_59 : Cond.fieldLink "EventPatterns" 59 "EventPatterns" "foundLength" "I" ∈ bw := bw_t 35 (by decide +kernel) (by decide +kernel)
theorem ka_int : Cond.arrayClass .int ∈ bw := bw_t 69 (by decide +kernel) (by decide +kernel)
theorem ka_boolean : Cond.arrayClass .boolean ∈ bw := bw_t 70 (by decide +kernel) (by decide +kernel)
theorem km_L_56 : Cond.methodLink "EventPatternsLaw" 56 yX_clear ∈ bw := bw_t 71 (by decide +kernel) (by decide +kernel)
theorem ki_yX_clear : Cond.instanceMethod yX_clear ∈ bw := bw_t 72 (by decide +kernel) (by decide +kernel)
theorem ksel_yX_clear : Cond.selects "EventPatterns" yX_clear yX_clear ∈ bw := bw_t 73 (by decide +kernel) (by decide +kernel)
theorem km_L_82 : Cond.methodLink "EventPatternsLaw" 82 yX_events ∈ bw := bw_t 75 (by decide +kernel) (by decide +kernel)
theorem ki_yX_events : Cond.instanceMethod yX_events ∈ bw := bw_t 76 (by decide +kernel) (by decide +kernel)
theorem ksel_yX_events : Cond.selects "EventPatterns" yX_events yX_events ∈ bw := bw_t 77 (by decide +kernel) (by decide +kernel)
theorem km_L_47 : Cond.methodLink "EventPatternsLaw" 47 yL_event ∈ bw := bw_t 79 (by decide +kernel) (by decide +kernel)
theorem ks_yL_event : Cond.static yL_event ∈ bw := bw_t 80 (by decide +kernel) (by decide +kernel)
theorem kl_L_13 : Cond.classLink "EventPatternsLaw" 13 "java/lang/IllegalArgumentException" ∈ bw := bw_t 82 (by decide +kernel) (by decide +kernel)
theorem kl_L_15 : Cond.classLink "EventPatternsLaw" 15 "java/lang/UnsupportedOperationException" ∈ bw := bw_t 83 (by decide +kernel) (by decide +kernel)
theorem km_L_7 : Cond.methodLink "EventPatternsLaw" 7 yX_event ∈ bw := bw_t 84 (by decide +kernel) (by decide +kernel)
theorem ki_yX_event : Cond.instanceMethod yX_event ∈ bw := bw_t 85 (by decide +kernel) (by decide +kernel)
theorem ksel_yX_event : Cond.selects "EventPatterns" yX_event yX_event ∈ bw := bw_t 86 (by decide +kernel) (by decide +kernel)
theorem km_X_62 : Cond.methodLink "EventPatterns" 62 yX_earliestTime ∈ bw := bw_t 88 (by decide +kernel) (by decide +kernel)
theorem ki_yX_earliestTime : Cond.instanceMethod yX_earliestTime ∈ bw := bw_t 90 (by decide +kernel) (by decide +kernel)
theorem kk_X_66 : Cond.constant "EventPatterns" 66 1000000 ∈ bw := bw_t 92 (by decide +kernel) (by decide +kernel)
theorem kl_X_67 : Cond.classLink "EventPatterns" 67 "java/lang/IllegalArgumentException" ∈ bw := bw_t 93 (by decide +kernel) (by decide +kernel)
theorem kn_java_lang_IllegalArgumentException : Cond.instantiable "java/lang/IllegalArgumentException" 6 ∈ bw := bw_t 94 (by decide +kernel) (by decide +kernel)
theorem kn_java_lang_Throwable : Cond.instantiable "java/lang/Throwable" 6 ∈ bw := bw_t 133 (by decide +kernel) (by decide +kernel)
theorem ka_byte : Cond.arrayClass .byte ∈ bw := bw_t 161 (by decide +kernel) (by decide +kernel)
theorem kl_X_76 : Cond.classLink "EventPatterns" 76 "java/lang/UnsupportedOperationException" ∈ bw := bw_t 163 (by decide +kernel) (by decide +kernel)
theorem kn_java_lang_UnsupportedOperationException : Cond.instantiable "java/lang/UnsupportedOperationException" 6 ∈ bw := bw_t 164 (by decide +kernel) (by decide +kernel)
theorem km_X_81 : Cond.methodLink "EventPatterns" 81 yX_dropOldest ∈ bw := bw_t 179 (by decide +kernel) (by decide +kernel)
theorem ki_yX_dropOldest : Cond.instanceMethod yX_dropOldest ∈ bw := bw_t 181 (by decide +kernel) (by decide +kernel)
theorem km_L_60 : Cond.methodLink "EventPatternsLaw" 60 yL_pattern ∈ bw := bw_t 183 (by decide +kernel) (by decide +kernel)
theorem ks_yL_pattern : Cond.static yL_pattern ∈ bw := bw_t 184 (by decide +kernel) (by decide +kernel)
theorem km_L_17 : Cond.methodLink "EventPatternsLaw" 17 yX_pattern ∈ bw := bw_t 186 (by decide +kernel) (by decide +kernel)
theorem ki_yX_pattern : Cond.instanceMethod yX_pattern ∈ bw := bw_t 187 (by decide +kernel) (by decide +kernel)
theorem ksel_yX_pattern : Cond.selects "EventPatterns" yX_pattern yX_pattern ∈ bw := bw_t 188 (by decide +kernel) (by decide +kernel)
theorem km_L_64 : Cond.methodLink "EventPatternsLaw" 64 yL_step ∈ bw := bw_t 192 (by decide +kernel) (by decide +kernel)
theorem ks_yL_step : Cond.static yL_step ∈ bw := bw_t 193 (by decide +kernel) (by decide +kernel)
theorem km_L_21 : Cond.methodLink "EventPatternsLaw" 21 yX_step ∈ bw := bw_t 195 (by decide +kernel) (by decide +kernel)
theorem ki_yX_step : Cond.instanceMethod yX_step ∈ bw := bw_t 196 (by decide +kernel) (by decide +kernel)
theorem ksel_yX_step : Cond.selects "EventPatterns" yX_step yX_step ∈ bw := bw_t 197 (by decide +kernel) (by decide +kernel)
theorem km_L_68 : Cond.methodLink "EventPatternsLaw" 68 yL_count ∈ bw := bw_t 202 (by decide +kernel) (by decide +kernel)
theorem ks_yL_count : Cond.static yL_count ∈ bw := bw_t 203 (by decide +kernel) (by decide +kernel)
theorem kl_L_29 : Cond.classLink "EventPatternsLaw" 29 "java/lang/IllegalStateException" ∈ bw := bw_t 205 (by decide +kernel) (by decide +kernel)
theorem km_L_25 : Cond.methodLink "EventPatternsLaw" 25 yX_count ∈ bw := bw_t 206 (by decide +kernel) (by decide +kernel)
theorem ki_yX_count : Cond.instanceMethod yX_count ∈ bw := bw_t 207 (by decide +kernel) (by decide +kernel)
theorem ksel_yX_count : Cond.selects "EventPatterns" yX_count yX_count ∈ bw := bw_t 208 (by decide +kernel) (by decide +kernel)
theorem km_X_94 : Cond.methodLink "EventPatterns" 94 yX_needSteps ∈ bw := bw_t 210 (by decide +kernel) (by decide +kernel)
theorem ki_yX_needSteps : Cond.instanceMethod yX_needSteps ∈ bw := bw_t 212 (by decide +kernel) (by decide +kernel)
theorem kl_X_112 : Cond.classLink "EventPatterns" 112 "java/lang/IllegalStateException" ∈ bw := bw_t 214 (by decide +kernel) (by decide +kernel)
theorem kn_java_lang_IllegalStateException : Cond.instantiable "java/lang/IllegalStateException" 6 ∈ bw := bw_t 215 (by decide +kernel) (by decide +kernel)
theorem km_X_97 : Cond.methodLink "EventPatterns" 97 yX_countEnding ∈ bw := bw_t 230 (by decide +kernel) (by decide +kernel)
theorem ki_yX_countEnding : Cond.instanceMethod yX_countEnding ∈ bw := bw_t 232 (by decide +kernel) (by decide +kernel)
theorem km_X_123 : Cond.methodLink "EventPatterns" 123 yX_waysFrom ∈ bw := bw_t 234 (by decide +kernel) (by decide +kernel)
theorem ki_yX_waysFrom : Cond.instanceMethod yX_waysFrom ∈ bw := bw_t 236 (by decide +kernel) (by decide +kernel)
theorem km_X_127 : Cond.methodLink "EventPatterns" 127 yX_fits ∈ bw := bw_t 238 (by decide +kernel) (by decide +kernel)
theorem ki_yX_fits : Cond.instanceMethod yX_fits ∈ bw := bw_t 240 (by decide +kernel) (by decide +kernel)
theorem km_X_131 : Cond.methodLink "EventPatterns" 131 yX_waysOn ∈ bw := bw_t 242 (by decide +kernel) (by decide +kernel)
theorem ki_yX_waysOn : Cond.instanceMethod yX_waysOn ∈ bw := bw_t 244 (by decide +kernel) (by decide +kernel)
theorem km_X_135 : Cond.methodLink "EventPatterns" 135 yX_isLastStep ∈ bw := bw_t 246 (by decide +kernel) (by decide +kernel)
theorem ki_yX_isLastStep : Cond.instanceMethod yX_isLastStep ∈ bw := bw_t 248 (by decide +kernel) (by decide +kernel)
theorem km_X_138 : Cond.methodLink "EventPatterns" 138 yX_mayFollow ∈ bw := bw_t 250 (by decide +kernel) (by decide +kernel)
theorem ki_yX_mayFollow : Cond.instanceMethod yX_mayFollow ∈ bw := bw_t 252 (by decide +kernel) (by decide +kernel)
theorem km_X_142 : Cond.methodLink "EventPatterns" 142 yX_waysBySameStep ∈ bw := bw_t 254 (by decide +kernel) (by decide +kernel)
theorem ki_yX_waysBySameStep : Cond.instanceMethod yX_waysBySameStep ∈ bw := bw_t 256 (by decide +kernel) (by decide +kernel)
theorem km_X_145 : Cond.methodLink "EventPatterns" 145 yX_waysByNextStep ∈ bw := bw_t 258 (by decide +kernel) (by decide +kernel)
theorem ki_yX_waysByNextStep : Cond.instanceMethod yX_waysByNextStep ∈ bw := bw_t 260 (by decide +kernel) (by decide +kernel)
theorem km_L_72 : Cond.methodLink "EventPatternsLaw" 72 yL_latest ∈ bw := bw_t 262 (by decide +kernel) (by decide +kernel)
theorem ks_yL_latest : Cond.static yL_latest ∈ bw := bw_t 263 (by decide +kernel) (by decide +kernel)
theorem km_L_31 : Cond.methodLink "EventPatternsLaw" 31 yX_latest ∈ bw := bw_t 265 (by decide +kernel) (by decide +kernel)
theorem ki_yX_latest : Cond.instanceMethod yX_latest ∈ bw := bw_t 266 (by decide +kernel) (by decide +kernel)
theorem ksel_yX_latest : Cond.selects "EventPatterns" yX_latest yX_latest ∈ bw := bw_t 267 (by decide +kernel) (by decide +kernel)
theorem km_L_75 : Cond.methodLink "EventPatternsLaw" 75 yL_length ∈ bw := bw_t 269 (by decide +kernel) (by decide +kernel)
theorem ks_yL_length : Cond.static yL_length ∈ bw := bw_t 270 (by decide +kernel) (by decide +kernel)
theorem kl_L_38 : Cond.classLink "EventPatternsLaw" 38 "java/lang/IndexOutOfBoundsException" ∈ bw := bw_t 272 (by decide +kernel) (by decide +kernel)
theorem km_L_34 : Cond.methodLink "EventPatternsLaw" 34 yX_length ∈ bw := bw_t 273 (by decide +kernel) (by decide +kernel)
theorem ki_yX_length : Cond.instanceMethod yX_length ∈ bw := bw_t 274 (by decide +kernel) (by decide +kernel)
theorem ksel_yX_length : Cond.selects "EventPatterns" yX_length yX_length ∈ bw := bw_t 275 (by decide +kernel) (by decide +kernel)
theorem km_X_101 : Cond.methodLink "EventPatterns" 101 yX_needMatch ∈ bw := bw_t 277 (by decide +kernel) (by decide +kernel)
theorem ki_yX_needMatch : Cond.instanceMethod yX_needMatch ∈ bw := bw_t 279 (by decide +kernel) (by decide +kernel)
theorem km_X_117 : Cond.methodLink "EventPatterns" 117 yX_find ∈ bw := bw_t 281 (by decide +kernel) (by decide +kernel)
theorem ki_yX_find : Cond.instanceMethod yX_find ∈ bw := bw_t 283 (by decide +kernel) (by decide +kernel)
theorem km_X_148 : Cond.methodLink "EventPatterns" 148 yX_walk ∈ bw := bw_t 285 (by decide +kernel) (by decide +kernel)
theorem ki_yX_walk : Cond.instanceMethod yX_walk ∈ bw := bw_t 287 (by decide +kernel) (by decide +kernel)
theorem km_X_152 : Cond.methodLink "EventPatterns" 152 yX_addFound ∈ bw := bw_t 289 (by decide +kernel) (by decide +kernel)
theorem ki_yX_addFound : Cond.instanceMethod yX_addFound ∈ bw := bw_t 291 (by decide +kernel) (by decide +kernel)
theorem kl_X_105 : Cond.classLink "EventPatterns" 105 "java/lang/IndexOutOfBoundsException" ∈ bw := bw_t 293 (by decide +kernel) (by decide +kernel)
theorem kn_java_lang_IndexOutOfBoundsException : Cond.instantiable "java/lang/IndexOutOfBoundsException" 6 ∈ bw := bw_t 294 (by decide +kernel) (by decide +kernel)
theorem km_L_79 : Cond.methodLink "EventPatternsLaw" 79 yL_match ∈ bw := bw_t 309 (by decide +kernel) (by decide +kernel)
theorem ks_yL_match : Cond.static yL_match ∈ bw := bw_t 310 (by decide +kernel) (by decide +kernel)
theorem km_L_40 : Cond.methodLink "EventPatternsLaw" 40 yX_match ∈ bw := bw_t 312 (by decide +kernel) (by decide +kernel)
theorem ki_yX_match : Cond.instanceMethod yX_match ∈ bw := bw_t 313 (by decide +kernel) (by decide +kernel)
theorem ksel_yX_match : Cond.selects "EventPatterns" yX_match yX_match ∈ bw := bw_t 314 (by decide +kernel) (by decide +kernel)
theorem kl_L_44 : Cond.classLink "EventPatternsLaw" 44 "EventPatternsModel" ∈ bw := bw_t 318 (by decide +kernel) (by decide +kernel)
theorem kn_EventPatternsModel : Cond.instantiable "EventPatternsModel" 16 ∈ bw := bw_t 319 (by decide +kernel) (by decide +kernel)
theorem km_L_46 : Cond.methodLink "EventPatternsLaw" 46 yM_init ∈ bw := bw_t 320 (by decide +kernel) (by decide +kernel)
theorem ki_yM_init : Cond.instanceMethod yM_init ∈ bw := bw_t 321 (by decide +kernel) (by decide +kernel)
theorem km_M_1 : Cond.methodLink "EventPatternsModel" 1 objectInit ∈ bw := bw_t 323 (by decide +kernel) (by decide +kernel)
theorem kf_M_41 : Cond.fieldLink "EventPatternsModel" 41 "EventPatternsModel" "thrown" "I" ∈ bw := bw_t 324 (by decide +kernel) (by decide +kernel)
theorem kf_M_45 : Cond.fieldLink "EventPatternsModel" 45 "EventPatternsModel" "events" "I" ∈ bw := bw_t 325 (by decide +kernel) (by decide +kernel)
theorem kf_M_7 : Cond.fieldLink "EventPatternsModel" 7 "EventPatternsModel" "times" "[I" ∈ bw := bw_t 326 (by decide +kernel) (by decide +kernel)
theorem kf_M_13 : Cond.fieldLink "EventPatternsModel" 13 "EventPatternsModel" "kinds" "[I" ∈ bw := bw_t 327 (by decide +kernel) (by decide +kernel)
theorem kf_M_16 : Cond.fieldLink "EventPatternsModel" 16 "EventPatternsModel" "values" "[I" ∈ bw := bw_t 328 (by decide +kernel) (by decide +kernel)
theorem kf_M_57 : Cond.fieldLink "EventPatternsModel" 57 "EventPatternsModel" "style" "I" ∈ bw := bw_t 329 (by decide +kernel) (by decide +kernel)
theorem kf_M_60 : Cond.fieldLink "EventPatternsModel" 60 "EventPatternsModel" "span" "I" ∈ bw := bw_t 330 (by decide +kernel) (by decide +kernel)
theorem kf_M_63 : Cond.fieldLink "EventPatternsModel" 63 "EventPatternsModel" "steps" "I" ∈ bw := bw_t 331 (by decide +kernel) (by decide +kernel)
theorem kf_M_19 : Cond.fieldLink "EventPatternsModel" 19 "EventPatternsModel" "of" "[I" ∈ bw := bw_t 332 (by decide +kernel) (by decide +kernel)
theorem kf_M_22 : Cond.fieldLink "EventPatternsModel" 22 "EventPatternsModel" "tests" "[I" ∈ bw := bw_t 333 (by decide +kernel) (by decide +kernel)
theorem kf_M_25 : Cond.fieldLink "EventPatternsModel" 25 "EventPatternsModel" "least" "[I" ∈ bw := bw_t 334 (by decide +kernel) (by decide +kernel)
theorem kf_M_28 : Cond.fieldLink "EventPatternsModel" 28 "EventPatternsModel" "many" "[Z" ∈ bw := bw_t 335 (by decide +kernel) (by decide +kernel)
theorem kf_M_32 : Cond.fieldLink "EventPatternsModel" 32 "EventPatternsModel" "ways" "[I" ∈ bw := bw_t 336 (by decide +kernel) (by decide +kernel)
theorem kf_M_82 : Cond.fieldLink "EventPatternsModel" 82 "EventPatternsModel" "found" "I" ∈ bw := bw_t 337 (by decide +kernel) (by decide +kernel)
theorem kf_M_35 : Cond.fieldLink "EventPatternsModel" 35 "EventPatternsModel" "foundAt" "[I" ∈ bw := bw_t 338 (by decide +kernel) (by decide +kernel)
theorem kf_M_38 : Cond.fieldLink "EventPatternsModel" 38 "EventPatternsModel" "foundStep" "[I" ∈ bw := bw_t 339 (by decide +kernel) (by decide +kernel)
theorem km_L_53 : Cond.methodLink "EventPatternsLaw" 53 yM_thrown ∈ bw := bw_t 373 (by decide +kernel) (by decide +kernel)
theorem ki_yM_thrown : Cond.instanceMethod yM_thrown ∈ bw := bw_t 374 (by decide +kernel) (by decide +kernel)
theorem ksel_yM_thrown : Cond.selects "EventPatternsModel" yM_thrown yM_thrown ∈ bw := bw_t 375 (by decide +kernel) (by decide +kernel)
theorem km_L_52 : Cond.methodLink "EventPatternsLaw" 52 yM_event ∈ bw := bw_t 377 (by decide +kernel) (by decide +kernel)
theorem ki_yM_event : Cond.instanceMethod yM_event ∈ bw := bw_t 378 (by decide +kernel) (by decide +kernel)
theorem ksel_yM_event : Cond.selects "EventPatternsModel" yM_event yM_event ∈ bw := bw_t 379 (by decide +kernel) (by decide +kernel)
theorem kk_M_48 : Cond.constant "EventPatternsModel" 48 1000000 ∈ bw := bw_t 381 (by decide +kernel) (by decide +kernel)
theorem km_M_49 : Cond.methodLink "EventPatternsModel" 49 yM_in ∈ bw := bw_t 382 (by decide +kernel) (by decide +kernel)
theorem ks_yM_in : Cond.static yM_in ∈ bw := bw_t 383 (by decide +kernel) (by decide +kernel)
theorem km_M_53 : Cond.methodLink "EventPatternsModel" 53 yM_refuse ∈ bw := bw_t 385 (by decide +kernel) (by decide +kernel)
theorem ki_yM_refuse : Cond.instanceMethod yM_refuse ∈ bw := bw_t 387 (by decide +kernel) (by decide +kernel)
theorem km_L_59 : Cond.methodLink "EventPatternsLaw" 59 yM_clear ∈ bw := bw_t 389 (by decide +kernel) (by decide +kernel)
theorem ki_yM_clear : Cond.instanceMethod yM_clear ∈ bw := bw_t 390 (by decide +kernel) (by decide +kernel)
theorem ksel_yM_clear : Cond.selects "EventPatternsModel" yM_clear yM_clear ∈ bw := bw_t 391 (by decide +kernel) (by decide +kernel)
theorem km_L_63 : Cond.methodLink "EventPatternsLaw" 63 yM_pattern ∈ bw := bw_t 393 (by decide +kernel) (by decide +kernel)
theorem ki_yM_pattern : Cond.instanceMethod yM_pattern ∈ bw := bw_t 394 (by decide +kernel) (by decide +kernel)
theorem ksel_yM_pattern : Cond.selects "EventPatternsModel" yM_pattern yM_pattern ∈ bw := bw_t 395 (by decide +kernel) (by decide +kernel)
theorem km_L_67 : Cond.methodLink "EventPatternsLaw" 67 yM_step ∈ bw := bw_t 397 (by decide +kernel) (by decide +kernel)
theorem ki_yM_step : Cond.instanceMethod yM_step ∈ bw := bw_t 398 (by decide +kernel) (by decide +kernel)
theorem ksel_yM_step : Cond.selects "EventPatternsModel" yM_step yM_step ∈ bw := bw_t 399 (by decide +kernel) (by decide +kernel)
theorem km_L_71 : Cond.methodLink "EventPatternsLaw" 71 yM_count ∈ bw := bw_t 401 (by decide +kernel) (by decide +kernel)
theorem ki_yM_count : Cond.instanceMethod yM_count ∈ bw := bw_t 402 (by decide +kernel) (by decide +kernel)
theorem ksel_yM_count : Cond.selects "EventPatternsModel" yM_count yM_count ∈ bw := bw_t 403 (by decide +kernel) (by decide +kernel)
theorem km_M_78 : Cond.methodLink "EventPatternsModel" 78 yM_all ∈ bw := bw_t 405 (by decide +kernel) (by decide +kernel)
theorem ki_yM_all : Cond.instanceMethod yM_all ∈ bw := bw_t 407 (by decide +kernel) (by decide +kernel)
theorem km_M_66 : Cond.methodLink "EventPatternsModel" 66 yM_from ∈ bw := bw_t 409 (by decide +kernel) (by decide +kernel)
theorem ki_yM_from : Cond.instanceMethod yM_from ∈ bw := bw_t 411 (by decide +kernel) (by decide +kernel)
theorem km_M_70 : Cond.methodLink "EventPatternsModel" 70 yM_fits ∈ bw := bw_t 413 (by decide +kernel) (by decide +kernel)
theorem ki_yM_fits : Cond.instanceMethod yM_fits ∈ bw := bw_t 415 (by decide +kernel) (by decide +kernel)
theorem km_M_74 : Cond.methodLink "EventPatternsModel" 74 yM_waysFrom ∈ bw := bw_t 417 (by decide +kernel) (by decide +kernel)
theorem ki_yM_waysFrom : Cond.instanceMethod yM_waysFrom ∈ bw := bw_t 419 (by decide +kernel) (by decide +kernel)
theorem km_L_74 : Cond.methodLink "EventPatternsLaw" 74 yM_latest ∈ bw := bw_t 421 (by decide +kernel) (by decide +kernel)
theorem ki_yM_latest : Cond.instanceMethod yM_latest ∈ bw := bw_t 422 (by decide +kernel) (by decide +kernel)
theorem ksel_yM_latest : Cond.selects "EventPatternsModel" yM_latest yM_latest ∈ bw := bw_t 423 (by decide +kernel) (by decide +kernel)
theorem km_L_78 : Cond.methodLink "EventPatternsLaw" 78 yM_length ∈ bw := bw_t 425 (by decide +kernel) (by decide +kernel)
theorem ki_yM_length : Cond.instanceMethod yM_length ∈ bw := bw_t 426 (by decide +kernel) (by decide +kernel)
theorem ksel_yM_length : Cond.selects "EventPatternsModel" yM_length yM_length ∈ bw := bw_t 427 (by decide +kernel) (by decide +kernel)
theorem km_M_89 : Cond.methodLink "EventPatternsModel" 89 yM_find ∈ bw := bw_t 429 (by decide +kernel) (by decide +kernel)
theorem ki_yM_find : Cond.instanceMethod yM_find ∈ bw := bw_t 431 (by decide +kernel) (by decide +kernel)
theorem km_M_85 : Cond.methodLink "EventPatternsModel" 85 yM_notes ∈ bw := bw_t 433 (by decide +kernel) (by decide +kernel)
theorem ki_yM_notes : Cond.instanceMethod yM_notes ∈ bw := bw_t 435 (by decide +kernel) (by decide +kernel)
theorem km_L_81 : Cond.methodLink "EventPatternsLaw" 81 yM_match ∈ bw := bw_t 437 (by decide +kernel) (by decide +kernel)
theorem ki_yM_match : Cond.instanceMethod yM_match ∈ bw := bw_t 438 (by decide +kernel) (by decide +kernel)
theorem ksel_yM_match : Cond.selects "EventPatternsModel" yM_match yM_match ∈ bw := bw_t 439 (by decide +kernel) (by decide +kernel)
theorem km_L_85 : Cond.methodLink "EventPatternsLaw" 85 yM_events ∈ bw := bw_t 441 (by decide +kernel) (by decide +kernel)
theorem ki_yM_events : Cond.instanceMethod yM_events ∈ bw := bw_t 442 (by decide +kernel) (by decide +kernel)
theorem ksel_yM_events : Cond.selects "EventPatternsModel" yM_events yM_events ∈ bw := bw_t 443 (by decide +kernel) (by decide +kernel)
theorem ka_long : Cond.arrayClass .long ∈ bw := bw_t 445 (by decide +kernel) (by decide +kernel)
theorem ksel_yX_earliestTime : Cond.selects "EventPatterns" yX_earliestTime yX_earliestTime ∈ bw := bw_p 0 (by decide +kernel) (by decide +kernel)
theorem ksel_yX_dropOldest : Cond.selects "EventPatterns" yX_dropOldest yX_dropOldest ∈ bw := bw_p 2 (by decide +kernel) (by decide +kernel)
theorem ksel_yX_needSteps : Cond.selects "EventPatterns" yX_needSteps yX_needSteps ∈ bw := bw_p 3 (by decide +kernel) (by decide +kernel)
theorem ksel_yX_countEnding : Cond.selects "EventPatterns" yX_countEnding yX_countEnding ∈ bw := bw_p 4 (by decide +kernel) (by decide +kernel)
theorem ksel_yX_waysFrom : Cond.selects "EventPatterns" yX_waysFrom yX_waysFrom ∈ bw := bw_p 5 (by decide +kernel) (by decide +kernel)
theorem ksel_yX_fits : Cond.selects "EventPatterns" yX_fits yX_fits ∈ bw := bw_p 6 (by decide +kernel) (by decide +kernel)
theorem ksel_yX_waysOn : Cond.selects "EventPatterns" yX_waysOn yX_waysOn ∈ bw := bw_p 7 (by decide +kernel) (by decide +kernel)
theorem ksel_yX_isLastStep : Cond.selects "EventPatterns" yX_isLastStep yX_isLastStep ∈ bw := bw_p 8 (by decide +kernel) (by decide +kernel)
theorem ksel_yX_mayFollow : Cond.selects "EventPatterns" yX_mayFollow yX_mayFollow ∈ bw := bw_p 9 (by decide +kernel) (by decide +kernel)
theorem ksel_yX_waysBySameStep : Cond.selects "EventPatterns" yX_waysBySameStep yX_waysBySameStep ∈ bw := bw_p 10 (by decide +kernel) (by decide +kernel)
theorem ksel_yX_waysByNextStep : Cond.selects "EventPatterns" yX_waysByNextStep yX_waysByNextStep ∈ bw := bw_p 11 (by decide +kernel) (by decide +kernel)
theorem ksel_yX_needMatch : Cond.selects "EventPatterns" yX_needMatch yX_needMatch ∈ bw := bw_p 12 (by decide +kernel) (by decide +kernel)
theorem ksel_yX_find : Cond.selects "EventPatterns" yX_find yX_find ∈ bw := bw_p 13 (by decide +kernel) (by decide +kernel)
theorem ksel_yX_walk : Cond.selects "EventPatterns" yX_walk yX_walk ∈ bw := bw_p 14 (by decide +kernel) (by decide +kernel)
theorem ksel_yX_addFound : Cond.selects "EventPatterns" yX_addFound yX_addFound ∈ bw := bw_p 15 (by decide +kernel) (by decide +kernel)
theorem ksel_yM_refuse : Cond.selects "EventPatternsModel" yM_refuse yM_refuse ∈ bw := bw_p 16 (by decide +kernel) (by decide +kernel)
theorem ksel_yM_all : Cond.selects "EventPatternsModel" yM_all yM_all ∈ bw := bw_p 17 (by decide +kernel) (by decide +kernel)
theorem ksel_yM_from : Cond.selects "EventPatternsModel" yM_from yM_from ∈ bw := bw_p 18 (by decide +kernel) (by decide +kernel)
theorem ksel_yM_fits : Cond.selects "EventPatternsModel" yM_fits yM_fits ∈ bw := bw_p 19 (by decide +kernel) (by decide +kernel)
theorem ksel_yM_waysFrom : Cond.selects "EventPatternsModel" yM_waysFrom yM_waysFrom ∈ bw := bw_p 20 (by decide +kernel) (by decide +kernel)
theorem ksel_yM_find : Cond.selects "EventPatternsModel" yM_find yM_find ∈ bw := bw_p 21 (by decide +kernel) (by decide +kernel)
theorem ksel_yM_notes : Cond.selects "EventPatternsModel" yM_notes yM_notes ∈ bw := bw_p 22 (by decide +kernel) (by decide +kernel)
theorem kobj : Cond.code objectInit ⟨#[0xb1]⟩ 1 none ∈ bw := bw_t 17 (by decide +kernel) (by decide +kernel)
theorem inX : ∀ w ∈ u_ws "EventPatterns" TX 16, w ∈ bw := by decide +kernel
theorem inM : ∀ w ∈ u_ws "EventPatternsModel" TM 16, w ∈ bw := by decide +kernel
end
section
theorem dX_init_0 : decode cX_init 0 = .ok (.aload_n 0, 1) := by decide +kernel
theorem dX_init_1 : decode cX_init 1 = .ok (.invokespecial 1, 3) := by decide +kernel
theorem dX_init_4 : decode cX_init 4 = .ok (.aload_n 0, 1) := by decide +kernel
theorem dX_init_5 : decode cX_init 5 = .ok (.bipush 16, 2) := by decide +kernel
theorem dX_init_7 : decode cX_init 7 = .ok (.newarray .int, 2) := by decide +kernel
theorem dX_init_9 : decode cX_init 9 = .ok (.putfield 9, 3) := by decide +kernel
theorem dX_init_12 : decode cX_init 12 = .ok (.aload_n 0, 1) := by decide +kernel
theorem dX_init_13 : decode cX_init 13 = .ok (.bipush 16, 2) := by decide +kernel
theorem dX_init_15 : decode cX_init 15 = .ok (.newarray .int, 2) := by decide +kernel
theorem dX_init_17 : decode cX_init 17 = .ok (.putfield 13, 3) := by decide +kernel
theorem dX_init_20 : decode cX_init 20 = .ok (.aload_n 0, 1) := by decide +kernel
theorem dX_init_21 : decode cX_init 21 = .ok (.bipush 16, 2) := by decide +kernel
theorem dX_init_23 : decode cX_init 23 = .ok (.newarray .int, 2) := by decide +kernel
theorem dX_init_25 : decode cX_init 25 = .ok (.putfield 16, 3) := by decide +kernel
theorem dX_init_28 : decode cX_init 28 = .ok (.aload_n 0, 1) := by decide +kernel
theorem dX_init_29 : decode cX_init 29 = .ok (.iconst 5, 1) := by decide +kernel
theorem dX_init_30 : decode cX_init 30 = .ok (.newarray .int, 2) := by decide +kernel
theorem dX_init_32 : decode cX_init 32 = .ok (.putfield 19, 3) := by decide +kernel
theorem dX_init_35 : decode cX_init 35 = .ok (.aload_n 0, 1) := by decide +kernel
theorem dX_init_36 : decode cX_init 36 = .ok (.iconst 5, 1) := by decide +kernel
theorem dX_init_37 : decode cX_init 37 = .ok (.newarray .int, 2) := by decide +kernel
theorem dX_init_39 : decode cX_init 39 = .ok (.putfield 22, 3) := by decide +kernel
theorem dX_init_42 : decode cX_init 42 = .ok (.aload_n 0, 1) := by decide +kernel
theorem dX_init_43 : decode cX_init 43 = .ok (.iconst 5, 1) := by decide +kernel
theorem dX_init_44 : decode cX_init 44 = .ok (.newarray .int, 2) := by decide +kernel
theorem dX_init_46 : decode cX_init 46 = .ok (.putfield 25, 3) := by decide +kernel
theorem dX_init_49 : decode cX_init 49 = .ok (.aload_n 0, 1) := by decide +kernel
theorem dX_init_50 : decode cX_init 50 = .ok (.iconst 5, 1) := by decide +kernel
theorem dX_init_51 : decode cX_init 51 = .ok (.newarray .boolean, 2) := by decide +kernel
theorem dX_init_53 : decode cX_init 53 = .ok (.putfield 28, 3) := by decide +kernel
theorem dX_init_56 : decode cX_init 56 = .ok (.aload_n 0, 1) := by decide +kernel
theorem dX_init_57 : decode cX_init 57 = .ok (.bipush 16, 2) := by decide +kernel
theorem dX_init_59 : decode cX_init 59 = .ok (.iconst 5, 1) := by decide +kernel
theorem dX_init_60 : decode cX_init 60 = .ok (.multianewarray 32 2, 4) := by decide +kernel
theorem dX_init_64 : decode cX_init 64 = .ok (.putfield 34, 3) := by decide +kernel
theorem dX_init_67 : decode cX_init 67 = .ok (.aload_n 0, 1) := by decide +kernel
theorem dX_init_68 : decode cX_init 68 = .ok (.bipush 16, 2) := by decide +kernel
theorem dX_init_70 : decode cX_init 70 = .ok (.newarray .int, 2) := by decide +kernel
theorem dX_init_72 : decode cX_init 72 = .ok (.putfield 37, 3) := by decide +kernel
theorem dX_init_75 : decode cX_init 75 = .ok (.aload_n 0, 1) := by decide +kernel
theorem dX_init_76 : decode cX_init 76 = .ok (.bipush 16, 2) := by decide +kernel
theorem dX_init_78 : decode cX_init 78 = .ok (.newarray .int, 2) := by decide +kernel
theorem dX_init_80 : decode cX_init 80 = .ok (.putfield 40, 3) := by decide +kernel
theorem dX_init_83 : decode cX_init 83 = .ok (.aload_n 0, 1) := by decide +kernel
theorem dX_init_84 : decode cX_init 84 = .ok (.iconst 0, 1) := by decide +kernel
theorem dX_init_85 : decode cX_init 85 = .ok (.putfield 43, 3) := by decide +kernel
theorem dX_init_88 : decode cX_init 88 = .ok (.aload_n 0, 1) := by decide +kernel
theorem dX_init_89 : decode cX_init 89 = .ok (.iconst 0, 1) := by decide +kernel
theorem dX_init_90 : decode cX_init 90 = .ok (.putfield 47, 3) := by decide +kernel
theorem dX_init_93 : decode cX_init 93 = .ok (.aload_n 0, 1) := by decide +kernel
theorem dX_init_94 : decode cX_init 94 = .ok (.iconst 0, 1) := by decide +kernel
theorem dX_init_95 : decode cX_init 95 = .ok (.putfield 50, 3) := by decide +kernel
theorem dX_init_98 : decode cX_init 98 = .ok (.aload_n 0, 1) := by decide +kernel
theorem dX_init_99 : decode cX_init 99 = .ok (.iconst 0, 1) := by decide +kernel
theorem dX_init_100 : decode cX_init 100 = .ok (.putfield 53, 3) := by decide +kernel
theorem dX_init_103 : decode cX_init 103 = .ok (.aload_n 0, 1) := by decide +kernel
theorem dX_init_104 : decode cX_init 104 = .ok (.iconst 0, 1) := by decide +kernel
theorem dX_init_105 : decode cX_init 105 = .ok (.putfield 56, 3) := by decide +kernel
theorem dX_init_108 : decode cX_init 108 = .ok (.aload_n 0, 1) := by decide +kernel
theorem dX_init_109 : decode cX_init 109 = .ok (.iconst 0, 1) := by decide +kernel
theorem dX_init_110 : decode cX_init 110 = .ok (.putfield 59, 3) := by decide +kernel
theorem dX_init_113 : decode cX_init 113 = .ok (.return_, 1) := by decide +kernel
theorem dX_event_0 : decode cX_event 0 = .ok (.iload_n 1, 1) := by decide +kernel
theorem dX_event_1 : decode cX_event 1 = .ok (.aload_n 0, 1) := by decide +kernel
theorem dX_event_2 : decode cX_event 2 = .ok (.invokevirtual 62, 3) := by decide +kernel
theorem dX_event_5 : decode cX_event 5 = .ok (.if_icmp .lt 9, 3) := by decide +kernel
theorem dX_event_8 : decode cX_event 8 = .ok (.iload_n 1, 1) := by decide +kernel
theorem dX_event_9 : decode cX_event 9 = .ok (.ldc 66, 2) := by decide +kernel
theorem dX_event_11 : decode cX_event 11 = .ok (.if_icmp .le 13, 3) := by decide +kernel
theorem dX_event_14 : decode cX_event 14 = .ok (.new 67, 3) := by decide +kernel
theorem dX_event_17 : decode cX_event 17 = .ok (.dup, 1) := by decide +kernel
theorem dX_event_18 : decode cX_event 18 = .ok (.ldc 69, 2) := by decide +kernel
theorem dX_event_20 : decode cX_event 20 = .ok (.invokespecial 71, 3) := by decide +kernel
theorem dX_event_23 : decode cX_event 23 = .ok (.athrow, 1) := by decide +kernel
theorem dX_event_24 : decode cX_event 24 = .ok (.iload_n 2, 1) := by decide +kernel
theorem dX_event_25 : decode cX_event 25 = .ok (.ifCond .lt 9, 3) := by decide +kernel
theorem dX_event_28 : decode cX_event 28 = .ok (.iload_n 2, 1) := by decide +kernel
theorem dX_event_29 : decode cX_event 29 = .ok (.bipush 7, 2) := by decide +kernel
theorem dX_event_31 : decode cX_event 31 = .ok (.if_icmp .le 13, 3) := by decide +kernel
theorem dX_event_34 : decode cX_event 34 = .ok (.new 67, 3) := by decide +kernel
theorem dX_event_37 : decode cX_event 37 = .ok (.dup, 1) := by decide +kernel
theorem dX_event_38 : decode cX_event 38 = .ok (.ldc 74, 2) := by decide +kernel
theorem dX_event_40 : decode cX_event 40 = .ok (.invokespecial 71, 3) := by decide +kernel
theorem dX_event_43 : decode cX_event 43 = .ok (.athrow, 1) := by decide +kernel
theorem dX_event_44 : decode cX_event 44 = .ok (.aload_n 0, 1) := by decide +kernel
theorem dX_event_45 : decode cX_event 45 = .ok (.getfield 43, 3) := by decide +kernel
theorem dX_event_48 : decode cX_event 48 = .ok (.sipush 400, 3) := by decide +kernel
theorem dX_event_51 : decode cX_event 51 = .ok (.if_icmp .lt 13, 3) := by decide +kernel
theorem dX_event_54 : decode cX_event 54 = .ok (.new 76, 3) := by decide +kernel
theorem dX_event_57 : decode cX_event 57 = .ok (.dup, 1) := by decide +kernel
theorem dX_event_58 : decode cX_event 58 = .ok (.ldc 78, 2) := by decide +kernel
theorem dX_event_60 : decode cX_event 60 = .ok (.invokespecial 80, 3) := by decide +kernel
theorem dX_event_63 : decode cX_event 63 = .ok (.athrow, 1) := by decide +kernel
theorem dX_event_64 : decode cX_event 64 = .ok (.aload_n 0, 1) := by decide +kernel
theorem dX_event_65 : decode cX_event 65 = .ok (.getfield 47, 3) := by decide +kernel
theorem dX_event_68 : decode cX_event 68 = .ok (.bipush 16, 2) := by decide +kernel
theorem dX_event_70 : decode cX_event 70 = .ok (.if_icmp .lt 7, 3) := by decide +kernel
theorem dX_event_73 : decode cX_event 73 = .ok (.aload_n 0, 1) := by decide +kernel
theorem dX_event_74 : decode cX_event 74 = .ok (.invokevirtual 81, 3) := by decide +kernel
theorem dX_event_77 : decode cX_event 77 = .ok (.aload_n 0, 1) := by decide +kernel
theorem dX_event_78 : decode cX_event 78 = .ok (.getfield 9, 3) := by decide +kernel
theorem dX_event_81 : decode cX_event 81 = .ok (.aload_n 0, 1) := by decide +kernel
theorem dX_event_82 : decode cX_event 82 = .ok (.getfield 47, 3) := by decide +kernel
theorem dX_event_85 : decode cX_event 85 = .ok (.iload_n 1, 1) := by decide +kernel
theorem dX_event_86 : decode cX_event 86 = .ok (.iastore, 1) := by decide +kernel
theorem dX_event_87 : decode cX_event 87 = .ok (.aload_n 0, 1) := by decide +kernel
theorem dX_event_88 : decode cX_event 88 = .ok (.getfield 13, 3) := by decide +kernel
theorem dX_event_91 : decode cX_event 91 = .ok (.aload_n 0, 1) := by decide +kernel
theorem dX_event_92 : decode cX_event 92 = .ok (.getfield 47, 3) := by decide +kernel
theorem dX_event_95 : decode cX_event 95 = .ok (.iload_n 2, 1) := by decide +kernel
theorem dX_event_96 : decode cX_event 96 = .ok (.iastore, 1) := by decide +kernel
theorem dX_event_97 : decode cX_event 97 = .ok (.aload_n 0, 1) := by decide +kernel
theorem dX_event_98 : decode cX_event 98 = .ok (.getfield 16, 3) := by decide +kernel
theorem dX_event_101 : decode cX_event 101 = .ok (.aload_n 0, 1) := by decide +kernel
theorem dX_event_102 : decode cX_event 102 = .ok (.getfield 47, 3) := by decide +kernel
theorem dX_event_105 : decode cX_event 105 = .ok (.iload_n 3, 1) := by decide +kernel
theorem dX_event_106 : decode cX_event 106 = .ok (.iastore, 1) := by decide +kernel
theorem dX_event_107 : decode cX_event 107 = .ok (.aload_n 0, 1) := by decide +kernel
theorem dX_event_108 : decode cX_event 108 = .ok (.dup, 1) := by decide +kernel
theorem dX_event_109 : decode cX_event 109 = .ok (.getfield 47, 3) := by decide +kernel
theorem dX_event_112 : decode cX_event 112 = .ok (.iconst 1, 1) := by decide +kernel
theorem dX_event_113 : decode cX_event 113 = .ok (.iadd, 1) := by decide +kernel
theorem dX_event_114 : decode cX_event 114 = .ok (.putfield 47, 3) := by decide +kernel
theorem dX_event_117 : decode cX_event 117 = .ok (.aload_n 0, 1) := by decide +kernel
theorem dX_event_118 : decode cX_event 118 = .ok (.dup, 1) := by decide +kernel
theorem dX_event_119 : decode cX_event 119 = .ok (.getfield 43, 3) := by decide +kernel
theorem dX_event_122 : decode cX_event 122 = .ok (.iconst 1, 1) := by decide +kernel
theorem dX_event_123 : decode cX_event 123 = .ok (.iadd, 1) := by decide +kernel
theorem dX_event_124 : decode cX_event 124 = .ok (.putfield 43, 3) := by decide +kernel
theorem dX_event_127 : decode cX_event 127 = .ok (.aload_n 0, 1) := by decide +kernel
theorem dX_event_128 : decode cX_event 128 = .ok (.getfield 43, 3) := by decide +kernel
theorem dX_event_131 : decode cX_event 131 = .ok (.iconst 1, 1) := by decide +kernel
theorem dX_event_132 : decode cX_event 132 = .ok (.isub, 1) := by decide +kernel
theorem dX_event_133 : decode cX_event 133 = .ok (.ireturn, 1) := by decide +kernel
theorem dX_clear_0 : decode cX_clear 0 = .ok (.aload_n 0, 1) := by decide +kernel
theorem dX_clear_1 : decode cX_clear 1 = .ok (.iconst 0, 1) := by decide +kernel
theorem dX_clear_2 : decode cX_clear 2 = .ok (.putfield 43, 3) := by decide +kernel
theorem dX_clear_5 : decode cX_clear 5 = .ok (.aload_n 0, 1) := by decide +kernel
theorem dX_clear_6 : decode cX_clear 6 = .ok (.iconst 0, 1) := by decide +kernel
theorem dX_clear_7 : decode cX_clear 7 = .ok (.putfield 47, 3) := by decide +kernel
theorem dX_clear_10 : decode cX_clear 10 = .ok (.return_, 1) := by decide +kernel
theorem dX_pattern_0 : decode cX_pattern 0 = .ok (.iload_n 1, 1) := by decide +kernel
theorem dX_pattern_1 : decode cX_pattern 1 = .ok (.ifCond .eq 18, 3) := by decide +kernel
theorem dX_pattern_4 : decode cX_pattern 4 = .ok (.iload_n 1, 1) := by decide +kernel
theorem dX_pattern_5 : decode cX_pattern 5 = .ok (.iconst 1, 1) := by decide +kernel
theorem dX_pattern_6 : decode cX_pattern 6 = .ok (.if_icmp .eq 13, 3) := by decide +kernel
theorem dX_pattern_9 : decode cX_pattern 9 = .ok (.new 67, 3) := by decide +kernel
theorem dX_pattern_12 : decode cX_pattern 12 = .ok (.dup, 1) := by decide +kernel
theorem dX_pattern_13 : decode cX_pattern 13 = .ok (.ldc 84, 2) := by decide +kernel
theorem dX_pattern_15 : decode cX_pattern 15 = .ok (.invokespecial 71, 3) := by decide +kernel
theorem dX_pattern_18 : decode cX_pattern 18 = .ok (.athrow, 1) := by decide +kernel
theorem dX_pattern_19 : decode cX_pattern 19 = .ok (.iload_n 2, 1) := by decide +kernel
theorem dX_pattern_20 : decode cX_pattern 20 = .ok (.ifCond .lt 9, 3) := by decide +kernel
theorem dX_pattern_23 : decode cX_pattern 23 = .ok (.iload_n 2, 1) := by decide +kernel
theorem dX_pattern_24 : decode cX_pattern 24 = .ok (.ldc 66, 2) := by decide +kernel
theorem dX_pattern_26 : decode cX_pattern 26 = .ok (.if_icmp .le 13, 3) := by decide +kernel
theorem dX_pattern_29 : decode cX_pattern 29 = .ok (.new 67, 3) := by decide +kernel
theorem dX_pattern_32 : decode cX_pattern 32 = .ok (.dup, 1) := by decide +kernel
theorem dX_pattern_33 : decode cX_pattern 33 = .ok (.ldc 86, 2) := by decide +kernel
theorem dX_pattern_35 : decode cX_pattern 35 = .ok (.invokespecial 71, 3) := by decide +kernel
theorem dX_pattern_38 : decode cX_pattern 38 = .ok (.athrow, 1) := by decide +kernel
theorem dX_pattern_39 : decode cX_pattern 39 = .ok (.aload_n 0, 1) := by decide +kernel
theorem dX_pattern_40 : decode cX_pattern 40 = .ok (.iload_n 1, 1) := by decide +kernel
theorem dX_pattern_41 : decode cX_pattern 41 = .ok (.putfield 50, 3) := by decide +kernel
theorem dX_pattern_44 : decode cX_pattern 44 = .ok (.aload_n 0, 1) := by decide +kernel
theorem dX_pattern_45 : decode cX_pattern 45 = .ok (.iload_n 2, 1) := by decide +kernel
theorem dX_pattern_46 : decode cX_pattern 46 = .ok (.putfield 53, 3) := by decide +kernel
theorem dX_pattern_49 : decode cX_pattern 49 = .ok (.aload_n 0, 1) := by decide +kernel
theorem dX_pattern_50 : decode cX_pattern 50 = .ok (.iconst 0, 1) := by decide +kernel
theorem dX_pattern_51 : decode cX_pattern 51 = .ok (.putfield 56, 3) := by decide +kernel
theorem dX_pattern_54 : decode cX_pattern 54 = .ok (.return_, 1) := by decide +kernel
theorem dX_step_0 : decode cX_step 0 = .ok (.iload_n 1, 1) := by decide +kernel
theorem dX_step_1 : decode cX_step 1 = .ok (.iconst 1, 1) := by decide +kernel
theorem dX_step_2 : decode cX_step 2 = .ok (.if_icmp .lt 10, 3) := by decide +kernel
theorem dX_step_5 : decode cX_step 5 = .ok (.iload_n 1, 1) := by decide +kernel
theorem dX_step_6 : decode cX_step 6 = .ok (.sipush 255, 3) := by decide +kernel
theorem dX_step_9 : decode cX_step 9 = .ok (.if_icmp .le 13, 3) := by decide +kernel
theorem dX_step_12 : decode cX_step 12 = .ok (.new 67, 3) := by decide +kernel
theorem dX_step_15 : decode cX_step 15 = .ok (.dup, 1) := by decide +kernel
theorem dX_step_16 : decode cX_step 16 = .ok (.ldc 88, 2) := by decide +kernel
theorem dX_step_18 : decode cX_step 18 = .ok (.invokespecial 71, 3) := by decide +kernel
theorem dX_step_21 : decode cX_step 21 = .ok (.athrow, 1) := by decide +kernel
theorem dX_step_22 : decode cX_step 22 = .ok (.iload_n 2, 1) := by decide +kernel
theorem dX_step_23 : decode cX_step 23 = .ok (.ifCond .lt 8, 3) := by decide +kernel
theorem dX_step_26 : decode cX_step 26 = .ok (.iload_n 2, 1) := by decide +kernel
theorem dX_step_27 : decode cX_step 27 = .ok (.iconst 4, 1) := by decide +kernel
theorem dX_step_28 : decode cX_step 28 = .ok (.if_icmp .le 13, 3) := by decide +kernel
theorem dX_step_31 : decode cX_step 31 = .ok (.new 67, 3) := by decide +kernel
theorem dX_step_34 : decode cX_step 34 = .ok (.dup, 1) := by decide +kernel
theorem dX_step_35 : decode cX_step 35 = .ok (.ldc 90, 2) := by decide +kernel
theorem dX_step_37 : decode cX_step 37 = .ok (.invokespecial 71, 3) := by decide +kernel
theorem dX_step_40 : decode cX_step 40 = .ok (.athrow, 1) := by decide +kernel
theorem dX_step_41 : decode cX_step 41 = .ok (.aload_n 0, 1) := by decide +kernel
theorem dX_step_42 : decode cX_step 42 = .ok (.getfield 56, 3) := by decide +kernel
theorem dX_step_45 : decode cX_step 45 = .ok (.iconst 5, 1) := by decide +kernel
theorem dX_step_46 : decode cX_step 46 = .ok (.if_icmp .lt 13, 3) := by decide +kernel
theorem dX_step_49 : decode cX_step 49 = .ok (.new 76, 3) := by decide +kernel
theorem dX_step_52 : decode cX_step 52 = .ok (.dup, 1) := by decide +kernel
theorem dX_step_53 : decode cX_step 53 = .ok (.ldc 92, 2) := by decide +kernel
theorem dX_step_55 : decode cX_step 55 = .ok (.invokespecial 80, 3) := by decide +kernel
theorem dX_step_58 : decode cX_step 58 = .ok (.athrow, 1) := by decide +kernel
theorem dX_step_59 : decode cX_step 59 = .ok (.aload_n 0, 1) := by decide +kernel
theorem dX_step_60 : decode cX_step 60 = .ok (.getfield 19, 3) := by decide +kernel
theorem dX_step_63 : decode cX_step 63 = .ok (.aload_n 0, 1) := by decide +kernel
theorem dX_step_64 : decode cX_step 64 = .ok (.getfield 56, 3) := by decide +kernel
theorem dX_step_67 : decode cX_step 67 = .ok (.iload_n 1, 1) := by decide +kernel
theorem dX_step_68 : decode cX_step 68 = .ok (.iastore, 1) := by decide +kernel
theorem dX_step_69 : decode cX_step 69 = .ok (.aload_n 0, 1) := by decide +kernel
theorem dX_step_70 : decode cX_step 70 = .ok (.getfield 22, 3) := by decide +kernel
theorem dX_step_73 : decode cX_step 73 = .ok (.aload_n 0, 1) := by decide +kernel
theorem dX_step_74 : decode cX_step 74 = .ok (.getfield 56, 3) := by decide +kernel
theorem dX_step_77 : decode cX_step 77 = .ok (.iload_n 2, 1) := by decide +kernel
theorem dX_step_78 : decode cX_step 78 = .ok (.iastore, 1) := by decide +kernel
theorem dX_step_79 : decode cX_step 79 = .ok (.aload_n 0, 1) := by decide +kernel
theorem dX_step_80 : decode cX_step 80 = .ok (.getfield 25, 3) := by decide +kernel
theorem dX_step_83 : decode cX_step 83 = .ok (.aload_n 0, 1) := by decide +kernel
theorem dX_step_84 : decode cX_step 84 = .ok (.getfield 56, 3) := by decide +kernel
theorem dX_step_87 : decode cX_step 87 = .ok (.iload_n 3, 1) := by decide +kernel
theorem dX_step_88 : decode cX_step 88 = .ok (.iastore, 1) := by decide +kernel
theorem dX_step_89 : decode cX_step 89 = .ok (.aload_n 0, 1) := by decide +kernel
theorem dX_step_90 : decode cX_step 90 = .ok (.getfield 28, 3) := by decide +kernel
theorem dX_step_93 : decode cX_step 93 = .ok (.aload_n 0, 1) := by decide +kernel
theorem dX_step_94 : decode cX_step 94 = .ok (.getfield 56, 3) := by decide +kernel
theorem dX_step_97 : decode cX_step 97 = .ok (.iload 4, 2) := by decide +kernel
theorem dX_step_99 : decode cX_step 99 = .ok (.bastore, 1) := by decide +kernel
theorem dX_step_100 : decode cX_step 100 = .ok (.aload_n 0, 1) := by decide +kernel
theorem dX_step_101 : decode cX_step 101 = .ok (.dup, 1) := by decide +kernel
theorem dX_step_102 : decode cX_step 102 = .ok (.getfield 56, 3) := by decide +kernel
theorem dX_step_105 : decode cX_step 105 = .ok (.iconst 1, 1) := by decide +kernel
theorem dX_step_106 : decode cX_step 106 = .ok (.iadd, 1) := by decide +kernel
theorem dX_step_107 : decode cX_step 107 = .ok (.putfield 56, 3) := by decide +kernel
theorem dX_step_110 : decode cX_step 110 = .ok (.aload_n 0, 1) := by decide +kernel
theorem dX_step_111 : decode cX_step 111 = .ok (.getfield 56, 3) := by decide +kernel
theorem dX_step_114 : decode cX_step 114 = .ok (.iconst 1, 1) := by decide +kernel
theorem dX_step_115 : decode cX_step 115 = .ok (.isub, 1) := by decide +kernel
theorem dX_step_116 : decode cX_step 116 = .ok (.ireturn, 1) := by decide +kernel
theorem dX_count_0 : decode cX_count 0 = .ok (.aload_n 0, 1) := by decide +kernel
theorem dX_count_1 : decode cX_count 1 = .ok (.invokevirtual 94, 3) := by decide +kernel
theorem dX_count_4 : decode cX_count 4 = .ok (.aload_n 0, 1) := by decide +kernel
theorem dX_count_5 : decode cX_count 5 = .ok (.iconst 0, 1) := by decide +kernel
theorem dX_count_6 : decode cX_count 6 = .ok (.invokevirtual 97, 3) := by decide +kernel
theorem dX_count_9 : decode cX_count 9 = .ok (.ireturn, 1) := by decide +kernel
theorem dX_latest_0 : decode cX_latest 0 = .ok (.aload_n 0, 1) := by decide +kernel
theorem dX_latest_1 : decode cX_latest 1 = .ok (.invokevirtual 94, 3) := by decide +kernel
theorem dX_latest_4 : decode cX_latest 4 = .ok (.aload_n 0, 1) := by decide +kernel
theorem dX_latest_5 : decode cX_latest 5 = .ok (.aload_n 0, 1) := by decide +kernel
theorem dX_latest_6 : decode cX_latest 6 = .ok (.getfield 47, 3) := by decide +kernel
theorem dX_latest_9 : decode cX_latest 9 = .ok (.iconst 1, 1) := by decide +kernel
theorem dX_latest_10 : decode cX_latest 10 = .ok (.isub, 1) := by decide +kernel
theorem dX_latest_11 : decode cX_latest 11 = .ok (.invokevirtual 97, 3) := by decide +kernel
theorem dX_latest_14 : decode cX_latest 14 = .ok (.ireturn, 1) := by decide +kernel
theorem dX_length_0 : decode cX_length 0 = .ok (.aload_n 0, 1) := by decide +kernel
theorem dX_length_1 : decode cX_length 1 = .ok (.invokevirtual 94, 3) := by decide +kernel
theorem dX_length_4 : decode cX_length 4 = .ok (.aload_n 0, 1) := by decide +kernel
theorem dX_length_5 : decode cX_length 5 = .ok (.iload_n 1, 1) := by decide +kernel
theorem dX_length_6 : decode cX_length 6 = .ok (.invokevirtual 101, 3) := by decide +kernel
theorem dX_length_9 : decode cX_length 9 = .ok (.aload_n 0, 1) := by decide +kernel
theorem dX_length_10 : decode cX_length 10 = .ok (.getfield 59, 3) := by decide +kernel
theorem dX_length_13 : decode cX_length 13 = .ok (.ireturn, 1) := by decide +kernel
theorem dX_match_0 : decode cX_match 0 = .ok (.aload_n 0, 1) := by decide +kernel
theorem dX_match_1 : decode cX_match 1 = .ok (.invokevirtual 94, 3) := by decide +kernel
theorem dX_match_4 : decode cX_match 4 = .ok (.aload_n 0, 1) := by decide +kernel
theorem dX_match_5 : decode cX_match 5 = .ok (.iload_n 1, 1) := by decide +kernel
theorem dX_match_6 : decode cX_match 6 = .ok (.invokevirtual 101, 3) := by decide +kernel
theorem dX_match_9 : decode cX_match 9 = .ok (.iload_n 2, 1) := by decide +kernel
theorem dX_match_10 : decode cX_match 10 = .ok (.ifCond .lt 11, 3) := by decide +kernel
theorem dX_match_13 : decode cX_match 13 = .ok (.iload_n 2, 1) := by decide +kernel
theorem dX_match_14 : decode cX_match 14 = .ok (.aload_n 0, 1) := by decide +kernel
theorem dX_match_15 : decode cX_match 15 = .ok (.getfield 59, 3) := by decide +kernel
theorem dX_match_18 : decode cX_match 18 = .ok (.if_icmp .lt 13, 3) := by decide +kernel
theorem dX_match_21 : decode cX_match 21 = .ok (.new 105, 3) := by decide +kernel
theorem dX_match_24 : decode cX_match 24 = .ok (.dup, 1) := by decide +kernel
theorem dX_match_25 : decode cX_match 25 = .ok (.ldc 107, 2) := by decide +kernel
theorem dX_match_27 : decode cX_match 27 = .ok (.invokespecial 109, 3) := by decide +kernel
theorem dX_match_30 : decode cX_match 30 = .ok (.athrow, 1) := by decide +kernel
theorem dX_match_31 : decode cX_match 31 = .ok (.iload_n 3, 1) := by decide +kernel
theorem dX_match_32 : decode cX_match 32 = .ok (.ifCond .ne 20, 3) := by decide +kernel
theorem dX_match_35 : decode cX_match 35 = .ok (.aload_n 0, 1) := by decide +kernel
theorem dX_match_36 : decode cX_match 36 = .ok (.getfield 43, 3) := by decide +kernel
theorem dX_match_39 : decode cX_match 39 = .ok (.aload_n 0, 1) := by decide +kernel
theorem dX_match_40 : decode cX_match 40 = .ok (.getfield 47, 3) := by decide +kernel
theorem dX_match_43 : decode cX_match 43 = .ok (.isub, 1) := by decide +kernel
theorem dX_match_44 : decode cX_match 44 = .ok (.aload_n 0, 1) := by decide +kernel
theorem dX_match_45 : decode cX_match 45 = .ok (.getfield 37, 3) := by decide +kernel
theorem dX_match_48 : decode cX_match 48 = .ok (.iload_n 2, 1) := by decide +kernel
theorem dX_match_49 : decode cX_match 49 = .ok (.iaload, 1) := by decide +kernel
theorem dX_match_50 : decode cX_match 50 = .ok (.iadd, 1) := by decide +kernel
theorem dX_match_51 : decode cX_match 51 = .ok (.ireturn, 1) := by decide +kernel
theorem dX_match_52 : decode cX_match 52 = .ok (.iload_n 3, 1) := by decide +kernel
theorem dX_match_53 : decode cX_match 53 = .ok (.iconst 1, 1) := by decide +kernel
theorem dX_match_54 : decode cX_match 54 = .ok (.if_icmp .ne 10, 3) := by decide +kernel
theorem dX_match_57 : decode cX_match 57 = .ok (.aload_n 0, 1) := by decide +kernel
theorem dX_match_58 : decode cX_match 58 = .ok (.getfield 40, 3) := by decide +kernel
theorem dX_match_61 : decode cX_match 61 = .ok (.iload_n 2, 1) := by decide +kernel
theorem dX_match_62 : decode cX_match 62 = .ok (.iaload, 1) := by decide +kernel
theorem dX_match_63 : decode cX_match 63 = .ok (.ireturn, 1) := by decide +kernel
theorem dX_match_64 : decode cX_match 64 = .ok (.new 67, 3) := by decide +kernel
theorem dX_match_67 : decode cX_match 67 = .ok (.dup, 1) := by decide +kernel
theorem dX_match_68 : decode cX_match 68 = .ok (.ldc 110, 2) := by decide +kernel
theorem dX_match_70 : decode cX_match 70 = .ok (.invokespecial 71, 3) := by decide +kernel
theorem dX_match_73 : decode cX_match 73 = .ok (.athrow, 1) := by decide +kernel
theorem dX_events_0 : decode cX_events 0 = .ok (.aload_n 0, 1) := by decide +kernel
theorem dX_events_1 : decode cX_events 1 = .ok (.getfield 43, 3) := by decide +kernel
theorem dX_events_4 : decode cX_events 4 = .ok (.ireturn, 1) := by decide +kernel
theorem dX_earliestTime_0 : decode cX_earliestTime 0 = .ok (.aload_n 0, 1) := by decide +kernel
theorem dX_earliestTime_1 : decode cX_earliestTime 1 = .ok (.getfield 47, 3) := by decide +kernel
theorem dX_earliestTime_4 : decode cX_earliestTime 4 = .ok (.ifCond .le 17, 3) := by decide +kernel
theorem dX_earliestTime_7 : decode cX_earliestTime 7 = .ok (.aload_n 0, 1) := by decide +kernel
theorem dX_earliestTime_8 : decode cX_earliestTime 8 = .ok (.getfield 9, 3) := by decide +kernel
theorem dX_earliestTime_11 : decode cX_earliestTime 11 = .ok (.aload_n 0, 1) := by decide +kernel
theorem dX_earliestTime_12 : decode cX_earliestTime 12 = .ok (.getfield 47, 3) := by decide +kernel
theorem dX_earliestTime_15 : decode cX_earliestTime 15 = .ok (.iconst 1, 1) := by decide +kernel
theorem dX_earliestTime_16 : decode cX_earliestTime 16 = .ok (.isub, 1) := by decide +kernel
theorem dX_earliestTime_17 : decode cX_earliestTime 17 = .ok (.iaload, 1) := by decide +kernel
theorem dX_earliestTime_18 : decode cX_earliestTime 18 = .ok (.goto 4, 3) := by decide +kernel
theorem dX_earliestTime_21 : decode cX_earliestTime 21 = .ok (.iconst 0, 1) := by decide +kernel
theorem dX_earliestTime_22 : decode cX_earliestTime 22 = .ok (.ireturn, 1) := by decide +kernel
theorem dX_dropOldest_0 : decode cX_dropOldest 0 = .ok (.iconst 1, 1) := by decide +kernel
theorem dX_dropOldest_1 : decode cX_dropOldest 1 = .ok (.istore_n 1, 1) := by decide +kernel
theorem dX_dropOldest_2 : decode cX_dropOldest 2 = .ok (.iload_n 1, 1) := by decide +kernel
theorem dX_dropOldest_3 : decode cX_dropOldest 3 = .ok (.bipush 16, 2) := by decide +kernel
theorem dX_dropOldest_5 : decode cX_dropOldest 5 = .ok (.if_icmp .ge 51, 3) := by decide +kernel
theorem dX_dropOldest_8 : decode cX_dropOldest 8 = .ok (.aload_n 0, 1) := by decide +kernel
theorem dX_dropOldest_9 : decode cX_dropOldest 9 = .ok (.getfield 9, 3) := by decide +kernel
theorem dX_dropOldest_12 : decode cX_dropOldest 12 = .ok (.iload_n 1, 1) := by decide +kernel
theorem dX_dropOldest_13 : decode cX_dropOldest 13 = .ok (.iconst 1, 1) := by decide +kernel
theorem dX_dropOldest_14 : decode cX_dropOldest 14 = .ok (.isub, 1) := by decide +kernel
theorem dX_dropOldest_15 : decode cX_dropOldest 15 = .ok (.aload_n 0, 1) := by decide +kernel
theorem dX_dropOldest_16 : decode cX_dropOldest 16 = .ok (.getfield 9, 3) := by decide +kernel
theorem dX_dropOldest_19 : decode cX_dropOldest 19 = .ok (.iload_n 1, 1) := by decide +kernel
theorem dX_dropOldest_20 : decode cX_dropOldest 20 = .ok (.iaload, 1) := by decide +kernel
theorem dX_dropOldest_21 : decode cX_dropOldest 21 = .ok (.iastore, 1) := by decide +kernel
theorem dX_dropOldest_22 : decode cX_dropOldest 22 = .ok (.aload_n 0, 1) := by decide +kernel
theorem dX_dropOldest_23 : decode cX_dropOldest 23 = .ok (.getfield 13, 3) := by decide +kernel
theorem dX_dropOldest_26 : decode cX_dropOldest 26 = .ok (.iload_n 1, 1) := by decide +kernel
theorem dX_dropOldest_27 : decode cX_dropOldest 27 = .ok (.iconst 1, 1) := by decide +kernel
theorem dX_dropOldest_28 : decode cX_dropOldest 28 = .ok (.isub, 1) := by decide +kernel
theorem dX_dropOldest_29 : decode cX_dropOldest 29 = .ok (.aload_n 0, 1) := by decide +kernel
theorem dX_dropOldest_30 : decode cX_dropOldest 30 = .ok (.getfield 13, 3) := by decide +kernel
theorem dX_dropOldest_33 : decode cX_dropOldest 33 = .ok (.iload_n 1, 1) := by decide +kernel
theorem dX_dropOldest_34 : decode cX_dropOldest 34 = .ok (.iaload, 1) := by decide +kernel
theorem dX_dropOldest_35 : decode cX_dropOldest 35 = .ok (.iastore, 1) := by decide +kernel
theorem dX_dropOldest_36 : decode cX_dropOldest 36 = .ok (.aload_n 0, 1) := by decide +kernel
theorem dX_dropOldest_37 : decode cX_dropOldest 37 = .ok (.getfield 16, 3) := by decide +kernel
theorem dX_dropOldest_40 : decode cX_dropOldest 40 = .ok (.iload_n 1, 1) := by decide +kernel
theorem dX_dropOldest_41 : decode cX_dropOldest 41 = .ok (.iconst 1, 1) := by decide +kernel
theorem dX_dropOldest_42 : decode cX_dropOldest 42 = .ok (.isub, 1) := by decide +kernel
theorem dX_dropOldest_43 : decode cX_dropOldest 43 = .ok (.aload_n 0, 1) := by decide +kernel
theorem dX_dropOldest_44 : decode cX_dropOldest 44 = .ok (.getfield 16, 3) := by decide +kernel
theorem dX_dropOldest_47 : decode cX_dropOldest 47 = .ok (.iload_n 1, 1) := by decide +kernel
theorem dX_dropOldest_48 : decode cX_dropOldest 48 = .ok (.iaload, 1) := by decide +kernel
theorem dX_dropOldest_49 : decode cX_dropOldest 49 = .ok (.iastore, 1) := by decide +kernel
theorem dX_dropOldest_50 : decode cX_dropOldest 50 = .ok (.iinc 1 1, 3) := by decide +kernel
theorem dX_dropOldest_53 : decode cX_dropOldest 53 = .ok (.goto (-51), 3) := by decide +kernel
theorem dX_dropOldest_56 : decode cX_dropOldest 56 = .ok (.aload_n 0, 1) := by decide +kernel
theorem dX_dropOldest_57 : decode cX_dropOldest 57 = .ok (.bipush 15, 2) := by decide +kernel
theorem dX_dropOldest_59 : decode cX_dropOldest 59 = .ok (.putfield 47, 3) := by decide +kernel
theorem dX_dropOldest_62 : decode cX_dropOldest 62 = .ok (.return_, 1) := by decide +kernel
theorem dX_needSteps_0 : decode cX_needSteps 0 = .ok (.aload_n 0, 1) := by decide +kernel
theorem dX_needSteps_1 : decode cX_needSteps 1 = .ok (.getfield 56, 3) := by decide +kernel
theorem dX_needSteps_4 : decode cX_needSteps 4 = .ok (.ifCond .ne 13, 3) := by decide +kernel
theorem dX_needSteps_7 : decode cX_needSteps 7 = .ok (.new 112, 3) := by decide +kernel
theorem dX_needSteps_10 : decode cX_needSteps 10 = .ok (.dup, 1) := by decide +kernel
theorem dX_needSteps_11 : decode cX_needSteps 11 = .ok (.ldc 114, 2) := by decide +kernel
theorem dX_needSteps_13 : decode cX_needSteps 13 = .ok (.invokespecial 116, 3) := by decide +kernel
theorem dX_needSteps_16 : decode cX_needSteps 16 = .ok (.athrow, 1) := by decide +kernel
theorem dX_needSteps_17 : decode cX_needSteps 17 = .ok (.return_, 1) := by decide +kernel
theorem dX_needMatch_0 : decode cX_needMatch 0 = .ok (.aload_n 0, 1) := by decide +kernel
theorem dX_needMatch_1 : decode cX_needMatch 1 = .ok (.iload_n 1, 1) := by decide +kernel
theorem dX_needMatch_2 : decode cX_needMatch 2 = .ok (.invokevirtual 117, 3) := by decide +kernel
theorem dX_needMatch_5 : decode cX_needMatch 5 = .ok (.ifCond .ne 13, 3) := by decide +kernel
theorem dX_needMatch_8 : decode cX_needMatch 8 = .ok (.new 105, 3) := by decide +kernel
theorem dX_needMatch_11 : decode cX_needMatch 11 = .ok (.dup, 1) := by decide +kernel
theorem dX_needMatch_12 : decode cX_needMatch 12 = .ok (.ldc 121, 2) := by decide +kernel
theorem dX_needMatch_14 : decode cX_needMatch 14 = .ok (.invokespecial 109, 3) := by decide +kernel
theorem dX_needMatch_17 : decode cX_needMatch 17 = .ok (.athrow, 1) := by decide +kernel
theorem dX_needMatch_18 : decode cX_needMatch 18 = .ok (.return_, 1) := by decide +kernel
theorem dX_countEnding_0 : decode cX_countEnding 0 = .ok (.iconst 0, 1) := by decide +kernel
theorem dX_countEnding_1 : decode cX_countEnding 1 = .ok (.istore_n 2, 1) := by decide +kernel
theorem dX_countEnding_2 : decode cX_countEnding 2 = .ok (.iconst 0, 1) := by decide +kernel
theorem dX_countEnding_3 : decode cX_countEnding 3 = .ok (.istore_n 3, 1) := by decide +kernel
theorem dX_countEnding_4 : decode cX_countEnding 4 = .ok (.iload_n 3, 1) := by decide +kernel
theorem dX_countEnding_5 : decode cX_countEnding 5 = .ok (.aload_n 0, 1) := by decide +kernel
theorem dX_countEnding_6 : decode cX_countEnding 6 = .ok (.getfield 47, 3) := by decide +kernel
theorem dX_countEnding_9 : decode cX_countEnding 9 = .ok (.if_icmp .ge 18, 3) := by decide +kernel
theorem dX_countEnding_12 : decode cX_countEnding 12 = .ok (.iload_n 2, 1) := by decide +kernel
theorem dX_countEnding_13 : decode cX_countEnding 13 = .ok (.aload_n 0, 1) := by decide +kernel
theorem dX_countEnding_14 : decode cX_countEnding 14 = .ok (.iload_n 3, 1) := by decide +kernel
theorem dX_countEnding_15 : decode cX_countEnding 15 = .ok (.iload_n 1, 1) := by decide +kernel
theorem dX_countEnding_16 : decode cX_countEnding 16 = .ok (.invokevirtual 123, 3) := by decide +kernel
theorem dX_countEnding_19 : decode cX_countEnding 19 = .ok (.iadd, 1) := by decide +kernel
theorem dX_countEnding_20 : decode cX_countEnding 20 = .ok (.istore_n 2, 1) := by decide +kernel
theorem dX_countEnding_21 : decode cX_countEnding 21 = .ok (.iinc 3 1, 3) := by decide +kernel
theorem dX_countEnding_24 : decode cX_countEnding 24 = .ok (.goto (-20), 3) := by decide +kernel
theorem dX_countEnding_27 : decode cX_countEnding 27 = .ok (.iload_n 2, 1) := by decide +kernel
theorem dX_countEnding_28 : decode cX_countEnding 28 = .ok (.ireturn, 1) := by decide +kernel
theorem dX_waysFrom_0 : decode cX_waysFrom 0 = .ok (.aload_n 0, 1) := by decide +kernel
theorem dX_waysFrom_1 : decode cX_waysFrom 1 = .ok (.iload_n 1, 1) := by decide +kernel
theorem dX_waysFrom_2 : decode cX_waysFrom 2 = .ok (.iconst 0, 1) := by decide +kernel
theorem dX_waysFrom_3 : decode cX_waysFrom 3 = .ok (.iload_n 1, 1) := by decide +kernel
theorem dX_waysFrom_4 : decode cX_waysFrom 4 = .ok (.iload_n 1, 1) := by decide +kernel
theorem dX_waysFrom_5 : decode cX_waysFrom 5 = .ok (.invokevirtual 127, 3) := by decide +kernel
theorem dX_waysFrom_8 : decode cX_waysFrom 8 = .ok (.ifCond .ne 5, 3) := by decide +kernel
theorem dX_waysFrom_11 : decode cX_waysFrom 11 = .ok (.iconst 0, 1) := by decide +kernel
theorem dX_waysFrom_12 : decode cX_waysFrom 12 = .ok (.ireturn, 1) := by decide +kernel
theorem dX_waysFrom_13 : decode cX_waysFrom 13 = .ok (.aload_n 0, 1) := by decide +kernel
theorem dX_waysFrom_14 : decode cX_waysFrom 14 = .ok (.getfield 47, 3) := by decide +kernel
theorem dX_waysFrom_17 : decode cX_waysFrom 17 = .ok (.iconst 1, 1) := by decide +kernel
theorem dX_waysFrom_18 : decode cX_waysFrom 18 = .ok (.isub, 1) := by decide +kernel
theorem dX_waysFrom_19 : decode cX_waysFrom 19 = .ok (.istore_n 3, 1) := by decide +kernel
theorem dX_waysFrom_20 : decode cX_waysFrom 20 = .ok (.iload_n 3, 1) := by decide +kernel
theorem dX_waysFrom_21 : decode cX_waysFrom 21 = .ok (.iload_n 1, 1) := by decide +kernel
theorem dX_waysFrom_22 : decode cX_waysFrom 22 = .ok (.if_icmp .lt 45, 3) := by decide +kernel
theorem dX_waysFrom_25 : decode cX_waysFrom 25 = .ok (.iconst 0, 1) := by decide +kernel
theorem dX_waysFrom_26 : decode cX_waysFrom 26 = .ok (.istore 4, 2) := by decide +kernel
theorem dX_waysFrom_28 : decode cX_waysFrom 28 = .ok (.iload 4, 2) := by decide +kernel
theorem dX_waysFrom_30 : decode cX_waysFrom 30 = .ok (.aload_n 0, 1) := by decide +kernel
theorem dX_waysFrom_31 : decode cX_waysFrom 31 = .ok (.getfield 56, 3) := by decide +kernel
theorem dX_waysFrom_34 : decode cX_waysFrom 34 = .ok (.if_icmp .ge 27, 3) := by decide +kernel
theorem dX_waysFrom_37 : decode cX_waysFrom 37 = .ok (.aload_n 0, 1) := by decide +kernel
theorem dX_waysFrom_38 : decode cX_waysFrom 38 = .ok (.getfield 34, 3) := by decide +kernel
theorem dX_waysFrom_41 : decode cX_waysFrom 41 = .ok (.iload_n 3, 1) := by decide +kernel
theorem dX_waysFrom_42 : decode cX_waysFrom 42 = .ok (.aaload, 1) := by decide +kernel
theorem dX_waysFrom_43 : decode cX_waysFrom 43 = .ok (.iload 4, 2) := by decide +kernel
theorem dX_waysFrom_45 : decode cX_waysFrom 45 = .ok (.aload_n 0, 1) := by decide +kernel
theorem dX_waysFrom_46 : decode cX_waysFrom 46 = .ok (.iload_n 1, 1) := by decide +kernel
theorem dX_waysFrom_47 : decode cX_waysFrom 47 = .ok (.iload_n 3, 1) := by decide +kernel
theorem dX_waysFrom_48 : decode cX_waysFrom 48 = .ok (.iload 4, 2) := by decide +kernel
theorem dX_waysFrom_50 : decode cX_waysFrom 50 = .ok (.iload_n 2, 1) := by decide +kernel
theorem dX_waysFrom_51 : decode cX_waysFrom 51 = .ok (.invokevirtual 131, 3) := by decide +kernel
theorem dX_waysFrom_54 : decode cX_waysFrom 54 = .ok (.iastore, 1) := by decide +kernel
theorem dX_waysFrom_55 : decode cX_waysFrom 55 = .ok (.iinc 4 1, 3) := by decide +kernel
theorem dX_waysFrom_58 : decode cX_waysFrom 58 = .ok (.goto (-30), 3) := by decide +kernel
theorem dX_waysFrom_61 : decode cX_waysFrom 61 = .ok (.iinc 3 (-1), 3) := by decide +kernel
theorem dX_waysFrom_64 : decode cX_waysFrom 64 = .ok (.goto (-44), 3) := by decide +kernel
theorem dX_waysFrom_67 : decode cX_waysFrom 67 = .ok (.aload_n 0, 1) := by decide +kernel
theorem dX_waysFrom_68 : decode cX_waysFrom 68 = .ok (.getfield 34, 3) := by decide +kernel
theorem dX_waysFrom_71 : decode cX_waysFrom 71 = .ok (.iload_n 1, 1) := by decide +kernel
theorem dX_waysFrom_72 : decode cX_waysFrom 72 = .ok (.aaload, 1) := by decide +kernel
theorem dX_waysFrom_73 : decode cX_waysFrom 73 = .ok (.iconst 0, 1) := by decide +kernel
theorem dX_waysFrom_74 : decode cX_waysFrom 74 = .ok (.iaload, 1) := by decide +kernel
theorem dX_waysFrom_75 : decode cX_waysFrom 75 = .ok (.ireturn, 1) := by decide +kernel
theorem dX_waysOn_0 : decode cX_waysOn 0 = .ok (.aload_n 0, 1) := by decide +kernel
theorem dX_waysOn_1 : decode cX_waysOn 1 = .ok (.iload_n 3, 1) := by decide +kernel
theorem dX_waysOn_2 : decode cX_waysOn 2 = .ok (.invokevirtual 135, 3) := by decide +kernel
theorem dX_waysOn_5 : decode cX_waysOn 5 = .ok (.ifCond .eq 13, 3) := by decide +kernel
theorem dX_waysOn_8 : decode cX_waysOn 8 = .ok (.iload_n 2, 1) := by decide +kernel
theorem dX_waysOn_9 : decode cX_waysOn 9 = .ok (.iload 4, 2) := by decide +kernel
theorem dX_waysOn_11 : decode cX_waysOn 11 = .ok (.if_icmp .lt 7, 3) := by decide +kernel
theorem dX_waysOn_14 : decode cX_waysOn 14 = .ok (.iconst 1, 1) := by decide +kernel
theorem dX_waysOn_15 : decode cX_waysOn 15 = .ok (.goto 4, 3) := by decide +kernel
theorem dX_waysOn_18 : decode cX_waysOn 18 = .ok (.iconst 0, 1) := by decide +kernel
theorem dX_waysOn_19 : decode cX_waysOn 19 = .ok (.istore 5, 2) := by decide +kernel
theorem dX_waysOn_21 : decode cX_waysOn 21 = .ok (.iload_n 2, 1) := by decide +kernel
theorem dX_waysOn_22 : decode cX_waysOn 22 = .ok (.iconst 1, 1) := by decide +kernel
theorem dX_waysOn_23 : decode cX_waysOn 23 = .ok (.iadd, 1) := by decide +kernel
theorem dX_waysOn_24 : decode cX_waysOn 24 = .ok (.istore 6, 2) := by decide +kernel
theorem dX_waysOn_26 : decode cX_waysOn 26 = .ok (.iload 6, 2) := by decide +kernel
theorem dX_waysOn_28 : decode cX_waysOn 28 = .ok (.aload_n 0, 1) := by decide +kernel
theorem dX_waysOn_29 : decode cX_waysOn 29 = .ok (.getfield 47, 3) := by decide +kernel
theorem dX_waysOn_32 : decode cX_waysOn 32 = .ok (.if_icmp .ge 48, 3) := by decide +kernel
theorem dX_waysOn_35 : decode cX_waysOn 35 = .ok (.aload_n 0, 1) := by decide +kernel
theorem dX_waysOn_36 : decode cX_waysOn 36 = .ok (.iload_n 1, 1) := by decide +kernel
theorem dX_waysOn_37 : decode cX_waysOn 37 = .ok (.iload_n 2, 1) := by decide +kernel
theorem dX_waysOn_38 : decode cX_waysOn 38 = .ok (.iload 6, 2) := by decide +kernel
theorem dX_waysOn_40 : decode cX_waysOn 40 = .ok (.invokevirtual 138, 3) := by decide +kernel
theorem dX_waysOn_43 : decode cX_waysOn 43 = .ok (.ifCond .eq 37, 3) := by decide +kernel
theorem dX_waysOn_46 : decode cX_waysOn 46 = .ok (.iload 5, 2) := by decide +kernel
theorem dX_waysOn_48 : decode cX_waysOn 48 = .ok (.aload_n 0, 1) := by decide +kernel
theorem dX_waysOn_49 : decode cX_waysOn 49 = .ok (.iload_n 1, 1) := by decide +kernel
theorem dX_waysOn_50 : decode cX_waysOn 50 = .ok (.iload_n 2, 1) := by decide +kernel
theorem dX_waysOn_51 : decode cX_waysOn 51 = .ok (.iload_n 3, 1) := by decide +kernel
theorem dX_waysOn_52 : decode cX_waysOn 52 = .ok (.iload 6, 2) := by decide +kernel
theorem dX_waysOn_54 : decode cX_waysOn 54 = .ok (.invokevirtual 142, 3) := by decide +kernel
theorem dX_waysOn_57 : decode cX_waysOn 57 = .ok (.iadd, 1) := by decide +kernel
theorem dX_waysOn_58 : decode cX_waysOn 58 = .ok (.istore 5, 2) := by decide +kernel
theorem dX_waysOn_60 : decode cX_waysOn 60 = .ok (.iload 5, 2) := by decide +kernel
theorem dX_waysOn_62 : decode cX_waysOn 62 = .ok (.aload_n 0, 1) := by decide +kernel
theorem dX_waysOn_63 : decode cX_waysOn 63 = .ok (.iload_n 1, 1) := by decide +kernel
theorem dX_waysOn_64 : decode cX_waysOn 64 = .ok (.iload_n 2, 1) := by decide +kernel
theorem dX_waysOn_65 : decode cX_waysOn 65 = .ok (.iload_n 3, 1) := by decide +kernel
theorem dX_waysOn_66 : decode cX_waysOn 66 = .ok (.iload 6, 2) := by decide +kernel
theorem dX_waysOn_68 : decode cX_waysOn 68 = .ok (.invokevirtual 145, 3) := by decide +kernel
theorem dX_waysOn_71 : decode cX_waysOn 71 = .ok (.iadd, 1) := by decide +kernel
theorem dX_waysOn_72 : decode cX_waysOn 72 = .ok (.istore 5, 2) := by decide +kernel
theorem dX_waysOn_74 : decode cX_waysOn 74 = .ok (.iinc 6 1, 3) := by decide +kernel
theorem dX_waysOn_77 : decode cX_waysOn 77 = .ok (.goto (-51), 3) := by decide +kernel
theorem dX_waysOn_80 : decode cX_waysOn 80 = .ok (.iload 5, 2) := by decide +kernel
theorem dX_waysOn_82 : decode cX_waysOn 82 = .ok (.ireturn, 1) := by decide +kernel
theorem dX_isLastStep_0 : decode cX_isLastStep 0 = .ok (.iload_n 1, 1) := by decide +kernel
theorem dX_isLastStep_1 : decode cX_isLastStep 1 = .ok (.aload_n 0, 1) := by decide +kernel
theorem dX_isLastStep_2 : decode cX_isLastStep 2 = .ok (.getfield 56, 3) := by decide +kernel
theorem dX_isLastStep_5 : decode cX_isLastStep 5 = .ok (.iconst 1, 1) := by decide +kernel
theorem dX_isLastStep_6 : decode cX_isLastStep 6 = .ok (.isub, 1) := by decide +kernel
theorem dX_isLastStep_7 : decode cX_isLastStep 7 = .ok (.if_icmp .ne 7, 3) := by decide +kernel
theorem dX_isLastStep_10 : decode cX_isLastStep 10 = .ok (.iconst 1, 1) := by decide +kernel
theorem dX_isLastStep_11 : decode cX_isLastStep 11 = .ok (.goto 4, 3) := by decide +kernel
theorem dX_isLastStep_14 : decode cX_isLastStep 14 = .ok (.iconst 0, 1) := by decide +kernel
theorem dX_isLastStep_15 : decode cX_isLastStep 15 = .ok (.ireturn, 1) := by decide +kernel
theorem dX_mayFollow_0 : decode cX_mayFollow 0 = .ok (.aload_n 0, 1) := by decide +kernel
theorem dX_mayFollow_1 : decode cX_mayFollow 1 = .ok (.getfield 50, 3) := by decide +kernel
theorem dX_mayFollow_4 : decode cX_mayFollow 4 = .ok (.ifCond .ne 12, 3) := by decide +kernel
theorem dX_mayFollow_7 : decode cX_mayFollow 7 = .ok (.iload_n 3, 1) := by decide +kernel
theorem dX_mayFollow_8 : decode cX_mayFollow 8 = .ok (.iload_n 2, 1) := by decide +kernel
theorem dX_mayFollow_9 : decode cX_mayFollow 9 = .ok (.iconst 1, 1) := by decide +kernel
theorem dX_mayFollow_10 : decode cX_mayFollow 10 = .ok (.iadd, 1) := by decide +kernel
theorem dX_mayFollow_11 : decode cX_mayFollow 11 = .ok (.if_icmp .eq 5, 3) := by decide +kernel
theorem dX_mayFollow_14 : decode cX_mayFollow 14 = .ok (.iconst 0, 1) := by decide +kernel
theorem dX_mayFollow_15 : decode cX_mayFollow 15 = .ok (.ireturn, 1) := by decide +kernel
theorem dX_mayFollow_16 : decode cX_mayFollow 16 = .ok (.aload_n 0, 1) := by decide +kernel
theorem dX_mayFollow_17 : decode cX_mayFollow 17 = .ok (.getfield 9, 3) := by decide +kernel
theorem dX_mayFollow_20 : decode cX_mayFollow 20 = .ok (.iload_n 3, 1) := by decide +kernel
theorem dX_mayFollow_21 : decode cX_mayFollow 21 = .ok (.iaload, 1) := by decide +kernel
theorem dX_mayFollow_22 : decode cX_mayFollow 22 = .ok (.aload_n 0, 1) := by decide +kernel
theorem dX_mayFollow_23 : decode cX_mayFollow 23 = .ok (.getfield 9, 3) := by decide +kernel
theorem dX_mayFollow_26 : decode cX_mayFollow 26 = .ok (.iload_n 1, 1) := by decide +kernel
theorem dX_mayFollow_27 : decode cX_mayFollow 27 = .ok (.iaload, 1) := by decide +kernel
theorem dX_mayFollow_28 : decode cX_mayFollow 28 = .ok (.isub, 1) := by decide +kernel
theorem dX_mayFollow_29 : decode cX_mayFollow 29 = .ok (.aload_n 0, 1) := by decide +kernel
theorem dX_mayFollow_30 : decode cX_mayFollow 30 = .ok (.getfield 53, 3) := by decide +kernel
theorem dX_mayFollow_33 : decode cX_mayFollow 33 = .ok (.if_icmp .gt 7, 3) := by decide +kernel
theorem dX_mayFollow_36 : decode cX_mayFollow 36 = .ok (.iconst 1, 1) := by decide +kernel
theorem dX_mayFollow_37 : decode cX_mayFollow 37 = .ok (.goto 4, 3) := by decide +kernel
theorem dX_mayFollow_40 : decode cX_mayFollow 40 = .ok (.iconst 0, 1) := by decide +kernel
theorem dX_mayFollow_41 : decode cX_mayFollow 41 = .ok (.ireturn, 1) := by decide +kernel
theorem dX_waysBySameStep_0 : decode cX_waysBySameStep 0 = .ok (.aload_n 0, 1) := by decide +kernel
theorem dX_waysBySameStep_1 : decode cX_waysBySameStep 1 = .ok (.getfield 28, 3) := by decide +kernel
theorem dX_waysBySameStep_4 : decode cX_waysBySameStep 4 = .ok (.iload_n 3, 1) := by decide +kernel
theorem dX_waysBySameStep_5 : decode cX_waysBySameStep 5 = .ok (.baload, 1) := by decide +kernel
theorem dX_waysBySameStep_6 : decode cX_waysBySameStep 6 = .ok (.ifCond .eq 15, 3) := by decide +kernel
theorem dX_waysBySameStep_9 : decode cX_waysBySameStep 9 = .ok (.aload_n 0, 1) := by decide +kernel
theorem dX_waysBySameStep_10 : decode cX_waysBySameStep 10 = .ok (.iload 4, 2) := by decide +kernel
theorem dX_waysBySameStep_12 : decode cX_waysBySameStep 12 = .ok (.iload_n 3, 1) := by decide +kernel
theorem dX_waysBySameStep_13 : decode cX_waysBySameStep 13 = .ok (.iload_n 2, 1) := by decide +kernel
theorem dX_waysBySameStep_14 : decode cX_waysBySameStep 14 = .ok (.iload_n 1, 1) := by decide +kernel
theorem dX_waysBySameStep_15 : decode cX_waysBySameStep 15 = .ok (.invokevirtual 127, 3) := by decide +kernel
theorem dX_waysBySameStep_18 : decode cX_waysBySameStep 18 = .ok (.ifCond .ne 5, 3) := by decide +kernel
theorem dX_waysBySameStep_21 : decode cX_waysBySameStep 21 = .ok (.iconst 0, 1) := by decide +kernel
theorem dX_waysBySameStep_22 : decode cX_waysBySameStep 22 = .ok (.ireturn, 1) := by decide +kernel
theorem dX_waysBySameStep_23 : decode cX_waysBySameStep 23 = .ok (.aload_n 0, 1) := by decide +kernel
theorem dX_waysBySameStep_24 : decode cX_waysBySameStep 24 = .ok (.getfield 34, 3) := by decide +kernel
theorem dX_waysBySameStep_27 : decode cX_waysBySameStep 27 = .ok (.iload 4, 2) := by decide +kernel
theorem dX_waysBySameStep_29 : decode cX_waysBySameStep 29 = .ok (.aaload, 1) := by decide +kernel
theorem dX_waysBySameStep_30 : decode cX_waysBySameStep 30 = .ok (.iload_n 3, 1) := by decide +kernel
theorem dX_waysBySameStep_31 : decode cX_waysBySameStep 31 = .ok (.iaload, 1) := by decide +kernel
theorem dX_waysBySameStep_32 : decode cX_waysBySameStep 32 = .ok (.ireturn, 1) := by decide +kernel
theorem dX_waysByNextStep_0 : decode cX_waysByNextStep 0 = .ok (.aload_n 0, 1) := by decide +kernel
theorem dX_waysByNextStep_1 : decode cX_waysByNextStep 1 = .ok (.iload_n 3, 1) := by decide +kernel
theorem dX_waysByNextStep_2 : decode cX_waysByNextStep 2 = .ok (.invokevirtual 135, 3) := by decide +kernel
theorem dX_waysByNextStep_5 : decode cX_waysByNextStep 5 = .ok (.ifCond .ne 17, 3) := by decide +kernel
theorem dX_waysByNextStep_8 : decode cX_waysByNextStep 8 = .ok (.aload_n 0, 1) := by decide +kernel
theorem dX_waysByNextStep_9 : decode cX_waysByNextStep 9 = .ok (.iload 4, 2) := by decide +kernel
theorem dX_waysByNextStep_11 : decode cX_waysByNextStep 11 = .ok (.iload_n 3, 1) := by decide +kernel
theorem dX_waysByNextStep_12 : decode cX_waysByNextStep 12 = .ok (.iconst 1, 1) := by decide +kernel
theorem dX_waysByNextStep_13 : decode cX_waysByNextStep 13 = .ok (.iadd, 1) := by decide +kernel
theorem dX_waysByNextStep_14 : decode cX_waysByNextStep 14 = .ok (.iload_n 2, 1) := by decide +kernel
theorem dX_waysByNextStep_15 : decode cX_waysByNextStep 15 = .ok (.iload_n 1, 1) := by decide +kernel
theorem dX_waysByNextStep_16 : decode cX_waysByNextStep 16 = .ok (.invokevirtual 127, 3) := by decide +kernel
theorem dX_waysByNextStep_19 : decode cX_waysByNextStep 19 = .ok (.ifCond .ne 5, 3) := by decide +kernel
theorem dX_waysByNextStep_22 : decode cX_waysByNextStep 22 = .ok (.iconst 0, 1) := by decide +kernel
theorem dX_waysByNextStep_23 : decode cX_waysByNextStep 23 = .ok (.ireturn, 1) := by decide +kernel
theorem dX_waysByNextStep_24 : decode cX_waysByNextStep 24 = .ok (.aload_n 0, 1) := by decide +kernel
theorem dX_waysByNextStep_25 : decode cX_waysByNextStep 25 = .ok (.getfield 34, 3) := by decide +kernel
theorem dX_waysByNextStep_28 : decode cX_waysByNextStep 28 = .ok (.iload 4, 2) := by decide +kernel
theorem dX_waysByNextStep_30 : decode cX_waysByNextStep 30 = .ok (.aaload, 1) := by decide +kernel
theorem dX_waysByNextStep_31 : decode cX_waysByNextStep 31 = .ok (.iload_n 3, 1) := by decide +kernel
theorem dX_waysByNextStep_32 : decode cX_waysByNextStep 32 = .ok (.iconst 1, 1) := by decide +kernel
theorem dX_waysByNextStep_33 : decode cX_waysByNextStep 33 = .ok (.iadd, 1) := by decide +kernel
theorem dX_waysByNextStep_34 : decode cX_waysByNextStep 34 = .ok (.iaload, 1) := by decide +kernel
theorem dX_waysByNextStep_35 : decode cX_waysByNextStep 35 = .ok (.ireturn, 1) := by decide +kernel
theorem dX_fits_0 : decode cX_fits 0 = .ok (.aload_n 0, 1) := by decide +kernel
theorem dX_fits_1 : decode cX_fits 1 = .ok (.getfield 19, 3) := by decide +kernel
theorem dX_fits_4 : decode cX_fits 4 = .ok (.iload_n 2, 1) := by decide +kernel
theorem dX_fits_5 : decode cX_fits 5 = .ok (.iaload, 1) := by decide +kernel
theorem dX_fits_6 : decode cX_fits 6 = .ok (.aload_n 0, 1) := by decide +kernel
theorem dX_fits_7 : decode cX_fits 7 = .ok (.getfield 13, 3) := by decide +kernel
theorem dX_fits_10 : decode cX_fits 10 = .ok (.iload_n 1, 1) := by decide +kernel
theorem dX_fits_11 : decode cX_fits 11 = .ok (.iaload, 1) := by decide +kernel
theorem dX_fits_12 : decode cX_fits 12 = .ok (.ishr, 1) := by decide +kernel
theorem dX_fits_13 : decode cX_fits 13 = .ok (.iconst 1, 1) := by decide +kernel
theorem dX_fits_14 : decode cX_fits 14 = .ok (.iand, 1) := by decide +kernel
theorem dX_fits_15 : decode cX_fits 15 = .ok (.ifCond .ne 5, 3) := by decide +kernel
theorem dX_fits_18 : decode cX_fits 18 = .ok (.iconst 0, 1) := by decide +kernel
theorem dX_fits_19 : decode cX_fits 19 = .ok (.ireturn, 1) := by decide +kernel
theorem dX_fits_20 : decode cX_fits 20 = .ok (.aload_n 0, 1) := by decide +kernel
theorem dX_fits_21 : decode cX_fits 21 = .ok (.getfield 16, 3) := by decide +kernel
theorem dX_fits_24 : decode cX_fits 24 = .ok (.iload_n 1, 1) := by decide +kernel
theorem dX_fits_25 : decode cX_fits 25 = .ok (.iaload, 1) := by decide +kernel
theorem dX_fits_26 : decode cX_fits 26 = .ok (.istore 5, 2) := by decide +kernel
theorem dX_fits_28 : decode cX_fits 28 = .ok (.aload_n 0, 1) := by decide +kernel
theorem dX_fits_29 : decode cX_fits 29 = .ok (.getfield 22, 3) := by decide +kernel
theorem dX_fits_32 : decode cX_fits 32 = .ok (.iload_n 2, 1) := by decide +kernel
theorem dX_fits_33 : decode cX_fits 33 = .ok (.iaload, 1) := by decide +kernel
theorem dX_fits_34 : decode cX_fits 34 = .ok (.tableswitch 111 1 4 #[30, 53, 76, 94], 30) := by decide +kernel
theorem dX_fits_64 : decode cX_fits 64 = .ok (.iload_n 1, 1) := by decide +kernel
theorem dX_fits_65 : decode cX_fits 65 = .ok (.iload 4, 2) := by decide +kernel
theorem dX_fits_67 : decode cX_fits 67 = .ok (.if_icmp .eq 14, 3) := by decide +kernel
theorem dX_fits_70 : decode cX_fits 70 = .ok (.iload 5, 2) := by decide +kernel
theorem dX_fits_72 : decode cX_fits 72 = .ok (.aload_n 0, 1) := by decide +kernel
theorem dX_fits_73 : decode cX_fits 73 = .ok (.getfield 16, 3) := by decide +kernel
theorem dX_fits_76 : decode cX_fits 76 = .ok (.iload_n 3, 1) := by decide +kernel
theorem dX_fits_77 : decode cX_fits 77 = .ok (.iaload, 1) := by decide +kernel
theorem dX_fits_78 : decode cX_fits 78 = .ok (.if_icmp .le 7, 3) := by decide +kernel
theorem dX_fits_81 : decode cX_fits 81 = .ok (.iconst 1, 1) := by decide +kernel
theorem dX_fits_82 : decode cX_fits 82 = .ok (.goto 4, 3) := by decide +kernel
theorem dX_fits_85 : decode cX_fits 85 = .ok (.iconst 0, 1) := by decide +kernel
theorem dX_fits_86 : decode cX_fits 86 = .ok (.ireturn, 1) := by decide +kernel
theorem dX_fits_87 : decode cX_fits 87 = .ok (.iload_n 1, 1) := by decide +kernel
theorem dX_fits_88 : decode cX_fits 88 = .ok (.iload 4, 2) := by decide +kernel
theorem dX_fits_90 : decode cX_fits 90 = .ok (.if_icmp .eq 14, 3) := by decide +kernel
theorem dX_fits_93 : decode cX_fits 93 = .ok (.iload 5, 2) := by decide +kernel
theorem dX_fits_95 : decode cX_fits 95 = .ok (.aload_n 0, 1) := by decide +kernel
theorem dX_fits_96 : decode cX_fits 96 = .ok (.getfield 16, 3) := by decide +kernel
theorem dX_fits_99 : decode cX_fits 99 = .ok (.iload_n 3, 1) := by decide +kernel
theorem dX_fits_100 : decode cX_fits 100 = .ok (.iaload, 1) := by decide +kernel
theorem dX_fits_101 : decode cX_fits 101 = .ok (.if_icmp .ge 7, 3) := by decide +kernel
theorem dX_fits_104 : decode cX_fits 104 = .ok (.iconst 1, 1) := by decide +kernel
theorem dX_fits_105 : decode cX_fits 105 = .ok (.goto 4, 3) := by decide +kernel
theorem dX_fits_108 : decode cX_fits 108 = .ok (.iconst 0, 1) := by decide +kernel
theorem dX_fits_109 : decode cX_fits 109 = .ok (.ireturn, 1) := by decide +kernel
theorem dX_fits_110 : decode cX_fits 110 = .ok (.iload 5, 2) := by decide +kernel
theorem dX_fits_112 : decode cX_fits 112 = .ok (.aload_n 0, 1) := by decide +kernel
theorem dX_fits_113 : decode cX_fits 113 = .ok (.getfield 16, 3) := by decide +kernel
theorem dX_fits_116 : decode cX_fits 116 = .ok (.iload 4, 2) := by decide +kernel
theorem dX_fits_118 : decode cX_fits 118 = .ok (.iaload, 1) := by decide +kernel
theorem dX_fits_119 : decode cX_fits 119 = .ok (.if_icmp .ne 7, 3) := by decide +kernel
theorem dX_fits_122 : decode cX_fits 122 = .ok (.iconst 1, 1) := by decide +kernel
theorem dX_fits_123 : decode cX_fits 123 = .ok (.goto 4, 3) := by decide +kernel
theorem dX_fits_126 : decode cX_fits 126 = .ok (.iconst 0, 1) := by decide +kernel
theorem dX_fits_127 : decode cX_fits 127 = .ok (.ireturn, 1) := by decide +kernel
theorem dX_fits_128 : decode cX_fits 128 = .ok (.iload 5, 2) := by decide +kernel
theorem dX_fits_130 : decode cX_fits 130 = .ok (.aload_n 0, 1) := by decide +kernel
theorem dX_fits_131 : decode cX_fits 131 = .ok (.getfield 25, 3) := by decide +kernel
theorem dX_fits_134 : decode cX_fits 134 = .ok (.iload_n 2, 1) := by decide +kernel
theorem dX_fits_135 : decode cX_fits 135 = .ok (.iaload, 1) := by decide +kernel
theorem dX_fits_136 : decode cX_fits 136 = .ok (.if_icmp .lt 7, 3) := by decide +kernel
theorem dX_fits_139 : decode cX_fits 139 = .ok (.iconst 1, 1) := by decide +kernel
theorem dX_fits_140 : decode cX_fits 140 = .ok (.goto 4, 3) := by decide +kernel
theorem dX_fits_143 : decode cX_fits 143 = .ok (.iconst 0, 1) := by decide +kernel
theorem dX_fits_144 : decode cX_fits 144 = .ok (.ireturn, 1) := by decide +kernel
theorem dX_fits_145 : decode cX_fits 145 = .ok (.iconst 1, 1) := by decide +kernel
theorem dX_fits_146 : decode cX_fits 146 = .ok (.ireturn, 1) := by decide +kernel
theorem dX_find_0 : decode cX_find 0 = .ok (.iload_n 1, 1) := by decide +kernel
theorem dX_find_1 : decode cX_find 1 = .ok (.ifCond .ge 5, 3) := by decide +kernel
theorem dX_find_4 : decode cX_find 4 = .ok (.iconst 0, 1) := by decide +kernel
theorem dX_find_5 : decode cX_find 5 = .ok (.ireturn, 1) := by decide +kernel
theorem dX_find_6 : decode cX_find 6 = .ok (.iload_n 1, 1) := by decide +kernel
theorem dX_find_7 : decode cX_find 7 = .ok (.istore_n 2, 1) := by decide +kernel
theorem dX_find_8 : decode cX_find 8 = .ok (.iconst 0, 1) := by decide +kernel
theorem dX_find_9 : decode cX_find 9 = .ok (.istore_n 3, 1) := by decide +kernel
theorem dX_find_10 : decode cX_find 10 = .ok (.iload_n 3, 1) := by decide +kernel
theorem dX_find_11 : decode cX_find 11 = .ok (.aload_n 0, 1) := by decide +kernel
theorem dX_find_12 : decode cX_find 12 = .ok (.getfield 47, 3) := by decide +kernel
theorem dX_find_15 : decode cX_find 15 = .ok (.if_icmp .ge 36, 3) := by decide +kernel
theorem dX_find_18 : decode cX_find 18 = .ok (.aload_n 0, 1) := by decide +kernel
theorem dX_find_19 : decode cX_find 19 = .ok (.iload_n 3, 1) := by decide +kernel
theorem dX_find_20 : decode cX_find 20 = .ok (.iconst 0, 1) := by decide +kernel
theorem dX_find_21 : decode cX_find 21 = .ok (.invokevirtual 123, 3) := by decide +kernel
theorem dX_find_24 : decode cX_find 24 = .ok (.istore 4, 2) := by decide +kernel
theorem dX_find_26 : decode cX_find 26 = .ok (.iload_n 2, 1) := by decide +kernel
theorem dX_find_27 : decode cX_find 27 = .ok (.iload 4, 2) := by decide +kernel
theorem dX_find_29 : decode cX_find 29 = .ok (.if_icmp .ge 11, 3) := by decide +kernel
theorem dX_find_32 : decode cX_find 32 = .ok (.aload_n 0, 1) := by decide +kernel
theorem dX_find_33 : decode cX_find 33 = .ok (.iload_n 3, 1) := by decide +kernel
theorem dX_find_34 : decode cX_find 34 = .ok (.iload_n 2, 1) := by decide +kernel
theorem dX_find_35 : decode cX_find 35 = .ok (.invokevirtual 148, 3) := by decide +kernel
theorem dX_find_38 : decode cX_find 38 = .ok (.iconst 1, 1) := by decide +kernel
theorem dX_find_39 : decode cX_find 39 = .ok (.ireturn, 1) := by decide +kernel
theorem dX_find_40 : decode cX_find 40 = .ok (.iload_n 2, 1) := by decide +kernel
theorem dX_find_41 : decode cX_find 41 = .ok (.iload 4, 2) := by decide +kernel
theorem dX_find_43 : decode cX_find 43 = .ok (.isub, 1) := by decide +kernel
theorem dX_find_44 : decode cX_find 44 = .ok (.istore_n 2, 1) := by decide +kernel
theorem dX_find_45 : decode cX_find 45 = .ok (.iinc 3 1, 3) := by decide +kernel
theorem dX_find_48 : decode cX_find 48 = .ok (.goto (-38), 3) := by decide +kernel
theorem dX_find_51 : decode cX_find 51 = .ok (.iconst 0, 1) := by decide +kernel
theorem dX_find_52 : decode cX_find 52 = .ok (.ireturn, 1) := by decide +kernel
theorem dX_walk_0 : decode cX_walk 0 = .ok (.iload_n 2, 1) := by decide +kernel
theorem dX_walk_1 : decode cX_walk 1 = .ok (.istore_n 3, 1) := by decide +kernel
theorem dX_walk_2 : decode cX_walk 2 = .ok (.iload_n 1, 1) := by decide +kernel
theorem dX_walk_3 : decode cX_walk 3 = .ok (.istore 4, 2) := by decide +kernel
theorem dX_walk_5 : decode cX_walk 5 = .ok (.iconst 0, 1) := by decide +kernel
theorem dX_walk_6 : decode cX_walk 6 = .ok (.istore 5, 2) := by decide +kernel
theorem dX_walk_8 : decode cX_walk 8 = .ok (.aload_n 0, 1) := by decide +kernel
theorem dX_walk_9 : decode cX_walk 9 = .ok (.iconst 0, 1) := by decide +kernel
theorem dX_walk_10 : decode cX_walk 10 = .ok (.putfield 59, 3) := by decide +kernel
theorem dX_walk_13 : decode cX_walk 13 = .ok (.aload_n 0, 1) := by decide +kernel
theorem dX_walk_14 : decode cX_walk 14 = .ok (.iload 4, 2) := by decide +kernel
theorem dX_walk_16 : decode cX_walk 16 = .ok (.iload 5, 2) := by decide +kernel
theorem dX_walk_18 : decode cX_walk 18 = .ok (.invokevirtual 152, 3) := by decide +kernel
theorem dX_walk_21 : decode cX_walk 21 = .ok (.iload_n 1, 1) := by decide +kernel
theorem dX_walk_22 : decode cX_walk 22 = .ok (.iconst 1, 1) := by decide +kernel
theorem dX_walk_23 : decode cX_walk 23 = .ok (.iadd, 1) := by decide +kernel
theorem dX_walk_24 : decode cX_walk 24 = .ok (.istore 6, 2) := by decide +kernel
theorem dX_walk_26 : decode cX_walk 26 = .ok (.iload 6, 2) := by decide +kernel
theorem dX_walk_28 : decode cX_walk 28 = .ok (.aload_n 0, 1) := by decide +kernel
theorem dX_walk_29 : decode cX_walk 29 = .ok (.getfield 47, 3) := by decide +kernel
theorem dX_walk_32 : decode cX_walk 32 = .ok (.if_icmp .ge 117, 3) := by decide +kernel
theorem dX_walk_35 : decode cX_walk 35 = .ok (.iload 6, 2) := by decide +kernel
theorem dX_walk_37 : decode cX_walk 37 = .ok (.iload 4, 2) := by decide +kernel
theorem dX_walk_39 : decode cX_walk 39 = .ok (.iconst 1, 1) := by decide +kernel
theorem dX_walk_40 : decode cX_walk 40 = .ok (.iadd, 1) := by decide +kernel
theorem dX_walk_41 : decode cX_walk 41 = .ok (.if_icmp .ne 20, 3) := by decide +kernel
theorem dX_walk_44 : decode cX_walk 44 = .ok (.aload_n 0, 1) := by decide +kernel
theorem dX_walk_45 : decode cX_walk 45 = .ok (.iload 5, 2) := by decide +kernel
theorem dX_walk_47 : decode cX_walk 47 = .ok (.invokevirtual 135, 3) := by decide +kernel
theorem dX_walk_50 : decode cX_walk 50 = .ok (.ifCond .eq 11, 3) := by decide +kernel
theorem dX_walk_53 : decode cX_walk 53 = .ok (.iload_n 3, 1) := by decide +kernel
theorem dX_walk_54 : decode cX_walk 54 = .ok (.ifCond .ne 4, 3) := by decide +kernel
theorem dX_walk_57 : decode cX_walk 57 = .ok (.return_, 1) := by decide +kernel
theorem dX_walk_58 : decode cX_walk 58 = .ok (.iinc 3 (-1), 3) := by decide +kernel
theorem dX_walk_61 : decode cX_walk 61 = .ok (.aload_n 0, 1) := by decide +kernel
theorem dX_walk_62 : decode cX_walk 62 = .ok (.iload_n 1, 1) := by decide +kernel
theorem dX_walk_63 : decode cX_walk 63 = .ok (.iload 4, 2) := by decide +kernel
theorem dX_walk_65 : decode cX_walk 65 = .ok (.iload 6, 2) := by decide +kernel
theorem dX_walk_67 : decode cX_walk 67 = .ok (.invokevirtual 138, 3) := by decide +kernel
theorem dX_walk_70 : decode cX_walk 70 = .ok (.ifCond .ne 4, 3) := by decide +kernel
theorem dX_walk_73 : decode cX_walk 73 = .ok (.return_, 1) := by decide +kernel
theorem dX_walk_74 : decode cX_walk 74 = .ok (.aload_n 0, 1) := by decide +kernel
theorem dX_walk_75 : decode cX_walk 75 = .ok (.iload_n 1, 1) := by decide +kernel
theorem dX_walk_76 : decode cX_walk 76 = .ok (.iload 4, 2) := by decide +kernel
theorem dX_walk_78 : decode cX_walk 78 = .ok (.iload 5, 2) := by decide +kernel
theorem dX_walk_80 : decode cX_walk 80 = .ok (.iload 6, 2) := by decide +kernel
theorem dX_walk_82 : decode cX_walk 82 = .ok (.invokevirtual 142, 3) := by decide +kernel
theorem dX_walk_85 : decode cX_walk 85 = .ok (.istore 7, 2) := by decide +kernel
theorem dX_walk_87 : decode cX_walk 87 = .ok (.iload 7, 2) := by decide +kernel
theorem dX_walk_89 : decode cX_walk 89 = .ok (.aload_n 0, 1) := by decide +kernel
theorem dX_walk_90 : decode cX_walk 90 = .ok (.iload_n 1, 1) := by decide +kernel
theorem dX_walk_91 : decode cX_walk 91 = .ok (.iload 4, 2) := by decide +kernel
theorem dX_walk_93 : decode cX_walk 93 = .ok (.iload 5, 2) := by decide +kernel
theorem dX_walk_95 : decode cX_walk 95 = .ok (.iload 6, 2) := by decide +kernel
theorem dX_walk_97 : decode cX_walk 97 = .ok (.invokevirtual 145, 3) := by decide +kernel
theorem dX_walk_100 : decode cX_walk 100 = .ok (.iadd, 1) := by decide +kernel
theorem dX_walk_101 : decode cX_walk 101 = .ok (.istore 8, 2) := by decide +kernel
theorem dX_walk_103 : decode cX_walk 103 = .ok (.iload_n 3, 1) := by decide +kernel
theorem dX_walk_104 : decode cX_walk 104 = .ok (.iload 8, 2) := by decide +kernel
theorem dX_walk_106 : decode cX_walk 106 = .ok (.if_icmp .lt 11, 3) := by decide +kernel
theorem dX_walk_109 : decode cX_walk 109 = .ok (.iload_n 3, 1) := by decide +kernel
theorem dX_walk_110 : decode cX_walk 110 = .ok (.iload 8, 2) := by decide +kernel
theorem dX_walk_112 : decode cX_walk 112 = .ok (.isub, 1) := by decide +kernel
theorem dX_walk_113 : decode cX_walk 113 = .ok (.istore_n 3, 1) := by decide +kernel
theorem dX_walk_114 : decode cX_walk 114 = .ok (.goto 29, 3) := by decide +kernel
theorem dX_walk_117 : decode cX_walk 117 = .ok (.iload_n 3, 1) := by decide +kernel
theorem dX_walk_118 : decode cX_walk 118 = .ok (.iload 7, 2) := by decide +kernel
theorem dX_walk_120 : decode cX_walk 120 = .ok (.if_icmp .lt 11, 3) := by decide +kernel
theorem dX_walk_123 : decode cX_walk 123 = .ok (.iload_n 3, 1) := by decide +kernel
theorem dX_walk_124 : decode cX_walk 124 = .ok (.iload 7, 2) := by decide +kernel
theorem dX_walk_126 : decode cX_walk 126 = .ok (.isub, 1) := by decide +kernel
theorem dX_walk_127 : decode cX_walk 127 = .ok (.istore_n 3, 1) := by decide +kernel
theorem dX_walk_128 : decode cX_walk 128 = .ok (.iinc 5 1, 3) := by decide +kernel
theorem dX_walk_131 : decode cX_walk 131 = .ok (.iload 6, 2) := by decide +kernel
theorem dX_walk_133 : decode cX_walk 133 = .ok (.istore 4, 2) := by decide +kernel
theorem dX_walk_135 : decode cX_walk 135 = .ok (.aload_n 0, 1) := by decide +kernel
theorem dX_walk_136 : decode cX_walk 136 = .ok (.iload 4, 2) := by decide +kernel
theorem dX_walk_138 : decode cX_walk 138 = .ok (.iload 5, 2) := by decide +kernel
theorem dX_walk_140 : decode cX_walk 140 = .ok (.invokevirtual 152, 3) := by decide +kernel
theorem dX_walk_143 : decode cX_walk 143 = .ok (.iinc 6 1, 3) := by decide +kernel
theorem dX_walk_146 : decode cX_walk 146 = .ok (.goto (-120), 3) := by decide +kernel
theorem dX_walk_149 : decode cX_walk 149 = .ok (.return_, 1) := by decide +kernel
theorem dX_addFound_0 : decode cX_addFound 0 = .ok (.aload_n 0, 1) := by decide +kernel
theorem dX_addFound_1 : decode cX_addFound 1 = .ok (.getfield 59, 3) := by decide +kernel
theorem dX_addFound_4 : decode cX_addFound 4 = .ok (.bipush 16, 2) := by decide +kernel
theorem dX_addFound_6 : decode cX_addFound 6 = .ok (.if_icmp .ge 33, 3) := by decide +kernel
theorem dX_addFound_9 : decode cX_addFound 9 = .ok (.aload_n 0, 1) := by decide +kernel
theorem dX_addFound_10 : decode cX_addFound 10 = .ok (.getfield 37, 3) := by decide +kernel
theorem dX_addFound_13 : decode cX_addFound 13 = .ok (.aload_n 0, 1) := by decide +kernel
theorem dX_addFound_14 : decode cX_addFound 14 = .ok (.getfield 59, 3) := by decide +kernel
theorem dX_addFound_17 : decode cX_addFound 17 = .ok (.iload_n 1, 1) := by decide +kernel
theorem dX_addFound_18 : decode cX_addFound 18 = .ok (.iastore, 1) := by decide +kernel
theorem dX_addFound_19 : decode cX_addFound 19 = .ok (.aload_n 0, 1) := by decide +kernel
theorem dX_addFound_20 : decode cX_addFound 20 = .ok (.getfield 40, 3) := by decide +kernel
theorem dX_addFound_23 : decode cX_addFound 23 = .ok (.aload_n 0, 1) := by decide +kernel
theorem dX_addFound_24 : decode cX_addFound 24 = .ok (.getfield 59, 3) := by decide +kernel
theorem dX_addFound_27 : decode cX_addFound 27 = .ok (.iload_n 2, 1) := by decide +kernel
theorem dX_addFound_28 : decode cX_addFound 28 = .ok (.iastore, 1) := by decide +kernel
theorem dX_addFound_29 : decode cX_addFound 29 = .ok (.aload_n 0, 1) := by decide +kernel
theorem dX_addFound_30 : decode cX_addFound 30 = .ok (.dup, 1) := by decide +kernel
theorem dX_addFound_31 : decode cX_addFound 31 = .ok (.getfield 59, 3) := by decide +kernel
theorem dX_addFound_34 : decode cX_addFound 34 = .ok (.iconst 1, 1) := by decide +kernel
theorem dX_addFound_35 : decode cX_addFound 35 = .ok (.iadd, 1) := by decide +kernel
theorem dX_addFound_36 : decode cX_addFound 36 = .ok (.putfield 59, 3) := by decide +kernel
theorem dX_addFound_39 : decode cX_addFound 39 = .ok (.return_, 1) := by decide +kernel
end
section
theorem dM_init_0 : decode cM_init 0 = .ok (.aload_n 0, 1) := by decide +kernel
theorem dM_init_1 : decode cM_init 1 = .ok (.invokespecial 1, 3) := by decide +kernel
theorem dM_init_4 : decode cM_init 4 = .ok (.aload_n 0, 1) := by decide +kernel
theorem dM_init_5 : decode cM_init 5 = .ok (.sipush 400, 3) := by decide +kernel
theorem dM_init_8 : decode cM_init 8 = .ok (.newarray .int, 2) := by decide +kernel
theorem dM_init_10 : decode cM_init 10 = .ok (.putfield 7, 3) := by decide +kernel
theorem dM_init_13 : decode cM_init 13 = .ok (.aload_n 0, 1) := by decide +kernel
theorem dM_init_14 : decode cM_init 14 = .ok (.sipush 400, 3) := by decide +kernel
theorem dM_init_17 : decode cM_init 17 = .ok (.newarray .int, 2) := by decide +kernel
theorem dM_init_19 : decode cM_init 19 = .ok (.putfield 13, 3) := by decide +kernel
theorem dM_init_22 : decode cM_init 22 = .ok (.aload_n 0, 1) := by decide +kernel
theorem dM_init_23 : decode cM_init 23 = .ok (.sipush 400, 3) := by decide +kernel
theorem dM_init_26 : decode cM_init 26 = .ok (.newarray .int, 2) := by decide +kernel
theorem dM_init_28 : decode cM_init 28 = .ok (.putfield 16, 3) := by decide +kernel
theorem dM_init_31 : decode cM_init 31 = .ok (.aload_n 0, 1) := by decide +kernel
theorem dM_init_32 : decode cM_init 32 = .ok (.iconst 5, 1) := by decide +kernel
theorem dM_init_33 : decode cM_init 33 = .ok (.newarray .int, 2) := by decide +kernel
theorem dM_init_35 : decode cM_init 35 = .ok (.putfield 19, 3) := by decide +kernel
theorem dM_init_38 : decode cM_init 38 = .ok (.aload_n 0, 1) := by decide +kernel
theorem dM_init_39 : decode cM_init 39 = .ok (.iconst 5, 1) := by decide +kernel
theorem dM_init_40 : decode cM_init 40 = .ok (.newarray .int, 2) := by decide +kernel
theorem dM_init_42 : decode cM_init 42 = .ok (.putfield 22, 3) := by decide +kernel
theorem dM_init_45 : decode cM_init 45 = .ok (.aload_n 0, 1) := by decide +kernel
theorem dM_init_46 : decode cM_init 46 = .ok (.iconst 5, 1) := by decide +kernel
theorem dM_init_47 : decode cM_init 47 = .ok (.newarray .int, 2) := by decide +kernel
theorem dM_init_49 : decode cM_init 49 = .ok (.putfield 25, 3) := by decide +kernel
theorem dM_init_52 : decode cM_init 52 = .ok (.aload_n 0, 1) := by decide +kernel
theorem dM_init_53 : decode cM_init 53 = .ok (.iconst 5, 1) := by decide +kernel
theorem dM_init_54 : decode cM_init 54 = .ok (.newarray .boolean, 2) := by decide +kernel
theorem dM_init_56 : decode cM_init 56 = .ok (.putfield 28, 3) := by decide +kernel
theorem dM_init_59 : decode cM_init 59 = .ok (.aload_n 0, 1) := by decide +kernel
theorem dM_init_60 : decode cM_init 60 = .ok (.bipush 80, 2) := by decide +kernel
theorem dM_init_62 : decode cM_init 62 = .ok (.newarray .int, 2) := by decide +kernel
theorem dM_init_64 : decode cM_init 64 = .ok (.putfield 32, 3) := by decide +kernel
theorem dM_init_67 : decode cM_init 67 = .ok (.aload_n 0, 1) := by decide +kernel
theorem dM_init_68 : decode cM_init 68 = .ok (.bipush 16, 2) := by decide +kernel
theorem dM_init_70 : decode cM_init 70 = .ok (.newarray .int, 2) := by decide +kernel
theorem dM_init_72 : decode cM_init 72 = .ok (.putfield 35, 3) := by decide +kernel
theorem dM_init_75 : decode cM_init 75 = .ok (.aload_n 0, 1) := by decide +kernel
theorem dM_init_76 : decode cM_init 76 = .ok (.bipush 16, 2) := by decide +kernel
theorem dM_init_78 : decode cM_init 78 = .ok (.newarray .int, 2) := by decide +kernel
theorem dM_init_80 : decode cM_init 80 = .ok (.putfield 38, 3) := by decide +kernel
theorem dM_init_83 : decode cM_init 83 = .ok (.return_, 1) := by decide +kernel
theorem dM_thrown_0 : decode cM_thrown 0 = .ok (.aload_n 0, 1) := by decide +kernel
theorem dM_thrown_1 : decode cM_thrown 1 = .ok (.getfield 41, 3) := by decide +kernel
theorem dM_thrown_4 : decode cM_thrown 4 = .ok (.ireturn, 1) := by decide +kernel
theorem dM_refuse_0 : decode cM_refuse 0 = .ok (.aload_n 0, 1) := by decide +kernel
theorem dM_refuse_1 : decode cM_refuse 1 = .ok (.iload_n 1, 1) := by decide +kernel
theorem dM_refuse_2 : decode cM_refuse 2 = .ok (.ifCond .eq 7, 3) := by decide +kernel
theorem dM_refuse_5 : decode cM_refuse 5 = .ok (.iconst 1, 1) := by decide +kernel
theorem dM_refuse_6 : decode cM_refuse 6 = .ok (.goto 20, 3) := by decide +kernel
theorem dM_refuse_9 : decode cM_refuse 9 = .ok (.iload_n 2, 1) := by decide +kernel
theorem dM_refuse_10 : decode cM_refuse 10 = .ok (.ifCond .eq 7, 3) := by decide +kernel
theorem dM_refuse_13 : decode cM_refuse 13 = .ok (.iconst 2, 1) := by decide +kernel
theorem dM_refuse_14 : decode cM_refuse 14 = .ok (.goto 12, 3) := by decide +kernel
theorem dM_refuse_17 : decode cM_refuse 17 = .ok (.iload_n 3, 1) := by decide +kernel
theorem dM_refuse_18 : decode cM_refuse 18 = .ok (.ifCond .eq 7, 3) := by decide +kernel
theorem dM_refuse_21 : decode cM_refuse 21 = .ok (.iconst 3, 1) := by decide +kernel
theorem dM_refuse_22 : decode cM_refuse 22 = .ok (.goto 4, 3) := by decide +kernel
theorem dM_refuse_25 : decode cM_refuse 25 = .ok (.iconst 0, 1) := by decide +kernel
theorem dM_refuse_26 : decode cM_refuse 26 = .ok (.putfield 41, 3) := by decide +kernel
theorem dM_refuse_29 : decode cM_refuse 29 = .ok (.aload_n 0, 1) := by decide +kernel
theorem dM_refuse_30 : decode cM_refuse 30 = .ok (.getfield 41, 3) := by decide +kernel
theorem dM_refuse_33 : decode cM_refuse 33 = .ok (.ifCond .le 7, 3) := by decide +kernel
theorem dM_refuse_36 : decode cM_refuse 36 = .ok (.iconst 1, 1) := by decide +kernel
theorem dM_refuse_37 : decode cM_refuse 37 = .ok (.goto 4, 3) := by decide +kernel
theorem dM_refuse_40 : decode cM_refuse 40 = .ok (.iconst 0, 1) := by decide +kernel
theorem dM_refuse_41 : decode cM_refuse 41 = .ok (.ireturn, 1) := by decide +kernel
theorem dM_in_0 : decode cM_in 0 = .ok (.iload_n 0, 1) := by decide +kernel
theorem dM_in_1 : decode cM_in 1 = .ok (.iload_n 1, 1) := by decide +kernel
theorem dM_in_2 : decode cM_in 2 = .ok (.if_icmp .lt 12, 3) := by decide +kernel
theorem dM_in_5 : decode cM_in 5 = .ok (.iload_n 0, 1) := by decide +kernel
theorem dM_in_6 : decode cM_in 6 = .ok (.iload_n 2, 1) := by decide +kernel
theorem dM_in_7 : decode cM_in 7 = .ok (.if_icmp .gt 7, 3) := by decide +kernel
theorem dM_in_10 : decode cM_in 10 = .ok (.iconst 1, 1) := by decide +kernel
theorem dM_in_11 : decode cM_in 11 = .ok (.goto 4, 3) := by decide +kernel
theorem dM_in_14 : decode cM_in 14 = .ok (.iconst 0, 1) := by decide +kernel
theorem dM_in_15 : decode cM_in 15 = .ok (.ireturn, 1) := by decide +kernel
theorem dM_event_0 : decode cM_event 0 = .ok (.iload_n 1, 1) := by decide +kernel
theorem dM_event_1 : decode cM_event 1 = .ok (.aload_n 0, 1) := by decide +kernel
theorem dM_event_2 : decode cM_event 2 = .ok (.getfield 45, 3) := by decide +kernel
theorem dM_event_5 : decode cM_event 5 = .ok (.ifCond .le 17, 3) := by decide +kernel
theorem dM_event_8 : decode cM_event 8 = .ok (.aload_n 0, 1) := by decide +kernel
theorem dM_event_9 : decode cM_event 9 = .ok (.getfield 7, 3) := by decide +kernel
theorem dM_event_12 : decode cM_event 12 = .ok (.aload_n 0, 1) := by decide +kernel
theorem dM_event_13 : decode cM_event 13 = .ok (.getfield 45, 3) := by decide +kernel
theorem dM_event_16 : decode cM_event 16 = .ok (.iconst 1, 1) := by decide +kernel
theorem dM_event_17 : decode cM_event 17 = .ok (.isub, 1) := by decide +kernel
theorem dM_event_18 : decode cM_event 18 = .ok (.iaload, 1) := by decide +kernel
theorem dM_event_19 : decode cM_event 19 = .ok (.goto 4, 3) := by decide +kernel
theorem dM_event_22 : decode cM_event 22 = .ok (.iconst 0, 1) := by decide +kernel
theorem dM_event_23 : decode cM_event 23 = .ok (.ldc 48, 2) := by decide +kernel
theorem dM_event_25 : decode cM_event 25 = .ok (.invokestatic 49, 3) := by decide +kernel
theorem dM_event_28 : decode cM_event 28 = .ok (.ifCond .eq 17, 3) := by decide +kernel
theorem dM_event_31 : decode cM_event 31 = .ok (.iload_n 2, 1) := by decide +kernel
theorem dM_event_32 : decode cM_event 32 = .ok (.iconst 0, 1) := by decide +kernel
theorem dM_event_33 : decode cM_event 33 = .ok (.bipush 7, 2) := by decide +kernel
theorem dM_event_35 : decode cM_event 35 = .ok (.invokestatic 49, 3) := by decide +kernel
theorem dM_event_38 : decode cM_event 38 = .ok (.ifCond .eq 7, 3) := by decide +kernel
theorem dM_event_41 : decode cM_event 41 = .ok (.iconst 1, 1) := by decide +kernel
theorem dM_event_42 : decode cM_event 42 = .ok (.goto 4, 3) := by decide +kernel
theorem dM_event_45 : decode cM_event 45 = .ok (.iconst 0, 1) := by decide +kernel
theorem dM_event_46 : decode cM_event 46 = .ok (.istore 4, 2) := by decide +kernel
theorem dM_event_48 : decode cM_event 48 = .ok (.aload_n 0, 1) := by decide +kernel
theorem dM_event_49 : decode cM_event 49 = .ok (.iload 4, 2) := by decide +kernel
theorem dM_event_51 : decode cM_event 51 = .ok (.ifCond .ne 7, 3) := by decide +kernel
theorem dM_event_54 : decode cM_event 54 = .ok (.iconst 1, 1) := by decide +kernel
theorem dM_event_55 : decode cM_event 55 = .ok (.goto 4, 3) := by decide +kernel
theorem dM_event_58 : decode cM_event 58 = .ok (.iconst 0, 1) := by decide +kernel
theorem dM_event_59 : decode cM_event 59 = .ok (.aload_n 0, 1) := by decide +kernel
theorem dM_event_60 : decode cM_event 60 = .ok (.getfield 45, 3) := by decide +kernel
theorem dM_event_63 : decode cM_event 63 = .ok (.sipush 400, 3) := by decide +kernel
theorem dM_event_66 : decode cM_event 66 = .ok (.if_icmp .ne 7, 3) := by decide +kernel
theorem dM_event_69 : decode cM_event 69 = .ok (.iconst 1, 1) := by decide +kernel
theorem dM_event_70 : decode cM_event 70 = .ok (.goto 4, 3) := by decide +kernel
theorem dM_event_73 : decode cM_event 73 = .ok (.iconst 0, 1) := by decide +kernel
theorem dM_event_74 : decode cM_event 74 = .ok (.iconst 0, 1) := by decide +kernel
theorem dM_event_75 : decode cM_event 75 = .ok (.invokevirtual 53, 3) := by decide +kernel
theorem dM_event_78 : decode cM_event 78 = .ok (.ifCond .eq 5, 3) := by decide +kernel
theorem dM_event_81 : decode cM_event 81 = .ok (.iconst 0, 1) := by decide +kernel
theorem dM_event_82 : decode cM_event 82 = .ok (.ireturn, 1) := by decide +kernel
theorem dM_event_83 : decode cM_event 83 = .ok (.aload_n 0, 1) := by decide +kernel
theorem dM_event_84 : decode cM_event 84 = .ok (.getfield 7, 3) := by decide +kernel
theorem dM_event_87 : decode cM_event 87 = .ok (.aload_n 0, 1) := by decide +kernel
theorem dM_event_88 : decode cM_event 88 = .ok (.getfield 45, 3) := by decide +kernel
theorem dM_event_91 : decode cM_event 91 = .ok (.iload_n 1, 1) := by decide +kernel
theorem dM_event_92 : decode cM_event 92 = .ok (.iastore, 1) := by decide +kernel
theorem dM_event_93 : decode cM_event 93 = .ok (.aload_n 0, 1) := by decide +kernel
theorem dM_event_94 : decode cM_event 94 = .ok (.getfield 13, 3) := by decide +kernel
theorem dM_event_97 : decode cM_event 97 = .ok (.aload_n 0, 1) := by decide +kernel
theorem dM_event_98 : decode cM_event 98 = .ok (.getfield 45, 3) := by decide +kernel
theorem dM_event_101 : decode cM_event 101 = .ok (.iload_n 2, 1) := by decide +kernel
theorem dM_event_102 : decode cM_event 102 = .ok (.iastore, 1) := by decide +kernel
theorem dM_event_103 : decode cM_event 103 = .ok (.aload_n 0, 1) := by decide +kernel
theorem dM_event_104 : decode cM_event 104 = .ok (.getfield 16, 3) := by decide +kernel
theorem dM_event_107 : decode cM_event 107 = .ok (.aload_n 0, 1) := by decide +kernel
theorem dM_event_108 : decode cM_event 108 = .ok (.getfield 45, 3) := by decide +kernel
theorem dM_event_111 : decode cM_event 111 = .ok (.iload_n 3, 1) := by decide +kernel
theorem dM_event_112 : decode cM_event 112 = .ok (.iastore, 1) := by decide +kernel
theorem dM_event_113 : decode cM_event 113 = .ok (.aload_n 0, 1) := by decide +kernel
theorem dM_event_114 : decode cM_event 114 = .ok (.dup, 1) := by decide +kernel
theorem dM_event_115 : decode cM_event 115 = .ok (.getfield 45, 3) := by decide +kernel
theorem dM_event_118 : decode cM_event 118 = .ok (.iconst 1, 1) := by decide +kernel
theorem dM_event_119 : decode cM_event 119 = .ok (.iadd, 1) := by decide +kernel
theorem dM_event_120 : decode cM_event 120 = .ok (.putfield 45, 3) := by decide +kernel
theorem dM_event_123 : decode cM_event 123 = .ok (.aload_n 0, 1) := by decide +kernel
theorem dM_event_124 : decode cM_event 124 = .ok (.getfield 45, 3) := by decide +kernel
theorem dM_event_127 : decode cM_event 127 = .ok (.iconst 1, 1) := by decide +kernel
theorem dM_event_128 : decode cM_event 128 = .ok (.isub, 1) := by decide +kernel
theorem dM_event_129 : decode cM_event 129 = .ok (.ireturn, 1) := by decide +kernel
theorem dM_clear_0 : decode cM_clear 0 = .ok (.aload_n 0, 1) := by decide +kernel
theorem dM_clear_1 : decode cM_clear 1 = .ok (.iconst 0, 1) := by decide +kernel
theorem dM_clear_2 : decode cM_clear 2 = .ok (.putfield 41, 3) := by decide +kernel
theorem dM_clear_5 : decode cM_clear 5 = .ok (.aload_n 0, 1) := by decide +kernel
theorem dM_clear_6 : decode cM_clear 6 = .ok (.iconst 0, 1) := by decide +kernel
theorem dM_clear_7 : decode cM_clear 7 = .ok (.putfield 45, 3) := by decide +kernel
theorem dM_clear_10 : decode cM_clear 10 = .ok (.return_, 1) := by decide +kernel
theorem dM_pattern_0 : decode cM_pattern 0 = .ok (.aload_n 0, 1) := by decide +kernel
theorem dM_pattern_1 : decode cM_pattern 1 = .ok (.iload_n 1, 1) := by decide +kernel
theorem dM_pattern_2 : decode cM_pattern 2 = .ok (.iconst 0, 1) := by decide +kernel
theorem dM_pattern_3 : decode cM_pattern 3 = .ok (.iconst 1, 1) := by decide +kernel
theorem dM_pattern_4 : decode cM_pattern 4 = .ok (.invokestatic 49, 3) := by decide +kernel
theorem dM_pattern_7 : decode cM_pattern 7 = .ok (.ifCond .eq 13, 3) := by decide +kernel
theorem dM_pattern_10 : decode cM_pattern 10 = .ok (.iload_n 2, 1) := by decide +kernel
theorem dM_pattern_11 : decode cM_pattern 11 = .ok (.iconst 0, 1) := by decide +kernel
theorem dM_pattern_12 : decode cM_pattern 12 = .ok (.ldc 48, 2) := by decide +kernel
theorem dM_pattern_14 : decode cM_pattern 14 = .ok (.invokestatic 49, 3) := by decide +kernel
theorem dM_pattern_17 : decode cM_pattern 17 = .ok (.ifCond .ne 7, 3) := by decide +kernel
theorem dM_pattern_20 : decode cM_pattern 20 = .ok (.iconst 1, 1) := by decide +kernel
theorem dM_pattern_21 : decode cM_pattern 21 = .ok (.goto 4, 3) := by decide +kernel
theorem dM_pattern_24 : decode cM_pattern 24 = .ok (.iconst 0, 1) := by decide +kernel
theorem dM_pattern_25 : decode cM_pattern 25 = .ok (.iconst 0, 1) := by decide +kernel
theorem dM_pattern_26 : decode cM_pattern 26 = .ok (.iconst 0, 1) := by decide +kernel
theorem dM_pattern_27 : decode cM_pattern 27 = .ok (.invokevirtual 53, 3) := by decide +kernel
theorem dM_pattern_30 : decode cM_pattern 30 = .ok (.ifCond .ne 18, 3) := by decide +kernel
theorem dM_pattern_33 : decode cM_pattern 33 = .ok (.aload_n 0, 1) := by decide +kernel
theorem dM_pattern_34 : decode cM_pattern 34 = .ok (.iload_n 1, 1) := by decide +kernel
theorem dM_pattern_35 : decode cM_pattern 35 = .ok (.putfield 57, 3) := by decide +kernel
theorem dM_pattern_38 : decode cM_pattern 38 = .ok (.aload_n 0, 1) := by decide +kernel
theorem dM_pattern_39 : decode cM_pattern 39 = .ok (.iload_n 2, 1) := by decide +kernel
theorem dM_pattern_40 : decode cM_pattern 40 = .ok (.putfield 60, 3) := by decide +kernel
theorem dM_pattern_43 : decode cM_pattern 43 = .ok (.aload_n 0, 1) := by decide +kernel
theorem dM_pattern_44 : decode cM_pattern 44 = .ok (.iconst 0, 1) := by decide +kernel
theorem dM_pattern_45 : decode cM_pattern 45 = .ok (.putfield 63, 3) := by decide +kernel
theorem dM_pattern_48 : decode cM_pattern 48 = .ok (.return_, 1) := by decide +kernel
theorem dM_step_0 : decode cM_step 0 = .ok (.iload_n 1, 1) := by decide +kernel
theorem dM_step_1 : decode cM_step 1 = .ok (.iconst 1, 1) := by decide +kernel
theorem dM_step_2 : decode cM_step 2 = .ok (.sipush 255, 3) := by decide +kernel
theorem dM_step_5 : decode cM_step 5 = .ok (.invokestatic 49, 3) := by decide +kernel
theorem dM_step_8 : decode cM_step 8 = .ok (.ifCond .eq 16, 3) := by decide +kernel
theorem dM_step_11 : decode cM_step 11 = .ok (.iload_n 2, 1) := by decide +kernel
theorem dM_step_12 : decode cM_step 12 = .ok (.iconst 0, 1) := by decide +kernel
theorem dM_step_13 : decode cM_step 13 = .ok (.iconst 4, 1) := by decide +kernel
theorem dM_step_14 : decode cM_step 14 = .ok (.invokestatic 49, 3) := by decide +kernel
theorem dM_step_17 : decode cM_step 17 = .ok (.ifCond .eq 7, 3) := by decide +kernel
theorem dM_step_20 : decode cM_step 20 = .ok (.iconst 1, 1) := by decide +kernel
theorem dM_step_21 : decode cM_step 21 = .ok (.goto 4, 3) := by decide +kernel
theorem dM_step_24 : decode cM_step 24 = .ok (.iconst 0, 1) := by decide +kernel
theorem dM_step_25 : decode cM_step 25 = .ok (.istore 5, 2) := by decide +kernel
theorem dM_step_27 : decode cM_step 27 = .ok (.aload_n 0, 1) := by decide +kernel
theorem dM_step_28 : decode cM_step 28 = .ok (.iload 5, 2) := by decide +kernel
theorem dM_step_30 : decode cM_step 30 = .ok (.ifCond .ne 7, 3) := by decide +kernel
theorem dM_step_33 : decode cM_step 33 = .ok (.iconst 1, 1) := by decide +kernel
theorem dM_step_34 : decode cM_step 34 = .ok (.goto 4, 3) := by decide +kernel
theorem dM_step_37 : decode cM_step 37 = .ok (.iconst 0, 1) := by decide +kernel
theorem dM_step_38 : decode cM_step 38 = .ok (.aload_n 0, 1) := by decide +kernel
theorem dM_step_39 : decode cM_step 39 = .ok (.getfield 63, 3) := by decide +kernel
theorem dM_step_42 : decode cM_step 42 = .ok (.iconst 5, 1) := by decide +kernel
theorem dM_step_43 : decode cM_step 43 = .ok (.if_icmp .ne 7, 3) := by decide +kernel
theorem dM_step_46 : decode cM_step 46 = .ok (.iconst 1, 1) := by decide +kernel
theorem dM_step_47 : decode cM_step 47 = .ok (.goto 4, 3) := by decide +kernel
theorem dM_step_50 : decode cM_step 50 = .ok (.iconst 0, 1) := by decide +kernel
theorem dM_step_51 : decode cM_step 51 = .ok (.iconst 0, 1) := by decide +kernel
theorem dM_step_52 : decode cM_step 52 = .ok (.invokevirtual 53, 3) := by decide +kernel
theorem dM_step_55 : decode cM_step 55 = .ok (.ifCond .eq 5, 3) := by decide +kernel
theorem dM_step_58 : decode cM_step 58 = .ok (.iconst 0, 1) := by decide +kernel
theorem dM_step_59 : decode cM_step 59 = .ok (.ireturn, 1) := by decide +kernel
theorem dM_step_60 : decode cM_step 60 = .ok (.aload_n 0, 1) := by decide +kernel
theorem dM_step_61 : decode cM_step 61 = .ok (.getfield 19, 3) := by decide +kernel
theorem dM_step_64 : decode cM_step 64 = .ok (.aload_n 0, 1) := by decide +kernel
theorem dM_step_65 : decode cM_step 65 = .ok (.getfield 63, 3) := by decide +kernel
theorem dM_step_68 : decode cM_step 68 = .ok (.iload_n 1, 1) := by decide +kernel
theorem dM_step_69 : decode cM_step 69 = .ok (.iastore, 1) := by decide +kernel
theorem dM_step_70 : decode cM_step 70 = .ok (.aload_n 0, 1) := by decide +kernel
theorem dM_step_71 : decode cM_step 71 = .ok (.getfield 22, 3) := by decide +kernel
theorem dM_step_74 : decode cM_step 74 = .ok (.aload_n 0, 1) := by decide +kernel
theorem dM_step_75 : decode cM_step 75 = .ok (.getfield 63, 3) := by decide +kernel
theorem dM_step_78 : decode cM_step 78 = .ok (.iload_n 2, 1) := by decide +kernel
theorem dM_step_79 : decode cM_step 79 = .ok (.iastore, 1) := by decide +kernel
theorem dM_step_80 : decode cM_step 80 = .ok (.aload_n 0, 1) := by decide +kernel
theorem dM_step_81 : decode cM_step 81 = .ok (.getfield 25, 3) := by decide +kernel
theorem dM_step_84 : decode cM_step 84 = .ok (.aload_n 0, 1) := by decide +kernel
theorem dM_step_85 : decode cM_step 85 = .ok (.getfield 63, 3) := by decide +kernel
theorem dM_step_88 : decode cM_step 88 = .ok (.iload_n 3, 1) := by decide +kernel
theorem dM_step_89 : decode cM_step 89 = .ok (.iastore, 1) := by decide +kernel
theorem dM_step_90 : decode cM_step 90 = .ok (.aload_n 0, 1) := by decide +kernel
theorem dM_step_91 : decode cM_step 91 = .ok (.getfield 28, 3) := by decide +kernel
theorem dM_step_94 : decode cM_step 94 = .ok (.aload_n 0, 1) := by decide +kernel
theorem dM_step_95 : decode cM_step 95 = .ok (.getfield 63, 3) := by decide +kernel
theorem dM_step_98 : decode cM_step 98 = .ok (.iload 4, 2) := by decide +kernel
theorem dM_step_100 : decode cM_step 100 = .ok (.bastore, 1) := by decide +kernel
theorem dM_step_101 : decode cM_step 101 = .ok (.aload_n 0, 1) := by decide +kernel
theorem dM_step_102 : decode cM_step 102 = .ok (.dup, 1) := by decide +kernel
theorem dM_step_103 : decode cM_step 103 = .ok (.getfield 63, 3) := by decide +kernel
theorem dM_step_106 : decode cM_step 106 = .ok (.iconst 1, 1) := by decide +kernel
theorem dM_step_107 : decode cM_step 107 = .ok (.iadd, 1) := by decide +kernel
theorem dM_step_108 : decode cM_step 108 = .ok (.putfield 63, 3) := by decide +kernel
theorem dM_step_111 : decode cM_step 111 = .ok (.aload_n 0, 1) := by decide +kernel
theorem dM_step_112 : decode cM_step 112 = .ok (.getfield 63, 3) := by decide +kernel
theorem dM_step_115 : decode cM_step 115 = .ok (.iconst 1, 1) := by decide +kernel
theorem dM_step_116 : decode cM_step 116 = .ok (.isub, 1) := by decide +kernel
theorem dM_step_117 : decode cM_step 117 = .ok (.ireturn, 1) := by decide +kernel
theorem dM_from_0 : decode cM_from 0 = .ok (.aload_n 0, 1) := by decide +kernel
theorem dM_from_1 : decode cM_from 1 = .ok (.getfield 45, 3) := by decide +kernel
theorem dM_from_4 : decode cM_from 4 = .ok (.bipush 16, 2) := by decide +kernel
theorem dM_from_6 : decode cM_from 6 = .ok (.if_icmp .le 13, 3) := by decide +kernel
theorem dM_from_9 : decode cM_from 9 = .ok (.aload_n 0, 1) := by decide +kernel
theorem dM_from_10 : decode cM_from 10 = .ok (.getfield 45, 3) := by decide +kernel
theorem dM_from_13 : decode cM_from 13 = .ok (.bipush 16, 2) := by decide +kernel
theorem dM_from_15 : decode cM_from 15 = .ok (.isub, 1) := by decide +kernel
theorem dM_from_16 : decode cM_from 16 = .ok (.goto 4, 3) := by decide +kernel
theorem dM_from_19 : decode cM_from 19 = .ok (.iconst 0, 1) := by decide +kernel
theorem dM_from_20 : decode cM_from 20 = .ok (.ireturn, 1) := by decide +kernel
theorem dM_fits_0 : decode cM_fits 0 = .ok (.aload_n 0, 1) := by decide +kernel
theorem dM_fits_1 : decode cM_fits 1 = .ok (.getfield 19, 3) := by decide +kernel
theorem dM_fits_4 : decode cM_fits 4 = .ok (.iload_n 2, 1) := by decide +kernel
theorem dM_fits_5 : decode cM_fits 5 = .ok (.iaload, 1) := by decide +kernel
theorem dM_fits_6 : decode cM_fits 6 = .ok (.aload_n 0, 1) := by decide +kernel
theorem dM_fits_7 : decode cM_fits 7 = .ok (.getfield 13, 3) := by decide +kernel
theorem dM_fits_10 : decode cM_fits 10 = .ok (.iload_n 1, 1) := by decide +kernel
theorem dM_fits_11 : decode cM_fits 11 = .ok (.iaload, 1) := by decide +kernel
theorem dM_fits_12 : decode cM_fits 12 = .ok (.ishr, 1) := by decide +kernel
theorem dM_fits_13 : decode cM_fits 13 = .ok (.iconst 1, 1) := by decide +kernel
theorem dM_fits_14 : decode cM_fits 14 = .ok (.iand, 1) := by decide +kernel
theorem dM_fits_15 : decode cM_fits 15 = .ok (.iconst 1, 1) := by decide +kernel
theorem dM_fits_16 : decode cM_fits 16 = .ok (.if_icmp .ne 28, 3) := by decide +kernel
theorem dM_fits_19 : decode cM_fits 19 = .ok (.aload_n 0, 1) := by decide +kernel
theorem dM_fits_20 : decode cM_fits 20 = .ok (.getfield 7, 3) := by decide +kernel
theorem dM_fits_23 : decode cM_fits 23 = .ok (.iload_n 1, 1) := by decide +kernel
theorem dM_fits_24 : decode cM_fits 24 = .ok (.iaload, 1) := by decide +kernel
theorem dM_fits_25 : decode cM_fits 25 = .ok (.aload_n 0, 1) := by decide +kernel
theorem dM_fits_26 : decode cM_fits 26 = .ok (.getfield 7, 3) := by decide +kernel
theorem dM_fits_29 : decode cM_fits 29 = .ok (.iload 4, 2) := by decide +kernel
theorem dM_fits_31 : decode cM_fits 31 = .ok (.iaload, 1) := by decide +kernel
theorem dM_fits_32 : decode cM_fits 32 = .ok (.isub, 1) := by decide +kernel
theorem dM_fits_33 : decode cM_fits 33 = .ok (.aload_n 0, 1) := by decide +kernel
theorem dM_fits_34 : decode cM_fits 34 = .ok (.getfield 60, 3) := by decide +kernel
theorem dM_fits_37 : decode cM_fits 37 = .ok (.if_icmp .gt 7, 3) := by decide +kernel
theorem dM_fits_40 : decode cM_fits 40 = .ok (.iconst 1, 1) := by decide +kernel
theorem dM_fits_41 : decode cM_fits 41 = .ok (.goto 4, 3) := by decide +kernel
theorem dM_fits_44 : decode cM_fits 44 = .ok (.iconst 0, 1) := by decide +kernel
theorem dM_fits_45 : decode cM_fits 45 = .ok (.istore 5, 2) := by decide +kernel
theorem dM_fits_47 : decode cM_fits 47 = .ok (.aload_n 0, 1) := by decide +kernel
theorem dM_fits_48 : decode cM_fits 48 = .ok (.getfield 22, 3) := by decide +kernel
theorem dM_fits_51 : decode cM_fits 51 = .ok (.iload_n 2, 1) := by decide +kernel
theorem dM_fits_52 : decode cM_fits 52 = .ok (.iaload, 1) := by decide +kernel
theorem dM_fits_53 : decode cM_fits 53 = .ok (.tableswitch 144 1 4 #[31, 61, 91, 118], 31) := by decide +kernel
theorem dM_fits_84 : decode cM_fits 84 = .ok (.iload 5, 2) := by decide +kernel
theorem dM_fits_86 : decode cM_fits 86 = .ok (.ifCond .eq 26, 3) := by decide +kernel
theorem dM_fits_89 : decode cM_fits 89 = .ok (.iload_n 3, 1) := by decide +kernel
theorem dM_fits_90 : decode cM_fits 90 = .ok (.ifCond .lt 18, 3) := by decide +kernel
theorem dM_fits_93 : decode cM_fits 93 = .ok (.aload_n 0, 1) := by decide +kernel
theorem dM_fits_94 : decode cM_fits 94 = .ok (.getfield 16, 3) := by decide +kernel
theorem dM_fits_97 : decode cM_fits 97 = .ok (.iload_n 1, 1) := by decide +kernel
theorem dM_fits_98 : decode cM_fits 98 = .ok (.iaload, 1) := by decide +kernel
theorem dM_fits_99 : decode cM_fits 99 = .ok (.aload_n 0, 1) := by decide +kernel
theorem dM_fits_100 : decode cM_fits 100 = .ok (.getfield 16, 3) := by decide +kernel
theorem dM_fits_103 : decode cM_fits 103 = .ok (.iload_n 3, 1) := by decide +kernel
theorem dM_fits_104 : decode cM_fits 104 = .ok (.iaload, 1) := by decide +kernel
theorem dM_fits_105 : decode cM_fits 105 = .ok (.if_icmp .le 7, 3) := by decide +kernel
theorem dM_fits_108 : decode cM_fits 108 = .ok (.iconst 1, 1) := by decide +kernel
theorem dM_fits_109 : decode cM_fits 109 = .ok (.goto 4, 3) := by decide +kernel
theorem dM_fits_112 : decode cM_fits 112 = .ok (.iconst 0, 1) := by decide +kernel
theorem dM_fits_113 : decode cM_fits 113 = .ok (.ireturn, 1) := by decide +kernel
theorem dM_fits_114 : decode cM_fits 114 = .ok (.iload 5, 2) := by decide +kernel
theorem dM_fits_116 : decode cM_fits 116 = .ok (.ifCond .eq 26, 3) := by decide +kernel
theorem dM_fits_119 : decode cM_fits 119 = .ok (.iload_n 3, 1) := by decide +kernel
theorem dM_fits_120 : decode cM_fits 120 = .ok (.ifCond .lt 18, 3) := by decide +kernel
theorem dM_fits_123 : decode cM_fits 123 = .ok (.aload_n 0, 1) := by decide +kernel
theorem dM_fits_124 : decode cM_fits 124 = .ok (.getfield 16, 3) := by decide +kernel
theorem dM_fits_127 : decode cM_fits 127 = .ok (.iload_n 1, 1) := by decide +kernel
theorem dM_fits_128 : decode cM_fits 128 = .ok (.iaload, 1) := by decide +kernel
theorem dM_fits_129 : decode cM_fits 129 = .ok (.aload_n 0, 1) := by decide +kernel
theorem dM_fits_130 : decode cM_fits 130 = .ok (.getfield 16, 3) := by decide +kernel
theorem dM_fits_133 : decode cM_fits 133 = .ok (.iload_n 3, 1) := by decide +kernel
theorem dM_fits_134 : decode cM_fits 134 = .ok (.iaload, 1) := by decide +kernel
theorem dM_fits_135 : decode cM_fits 135 = .ok (.if_icmp .ge 7, 3) := by decide +kernel
theorem dM_fits_138 : decode cM_fits 138 = .ok (.iconst 1, 1) := by decide +kernel
theorem dM_fits_139 : decode cM_fits 139 = .ok (.goto 4, 3) := by decide +kernel
theorem dM_fits_142 : decode cM_fits 142 = .ok (.iconst 0, 1) := by decide +kernel
theorem dM_fits_143 : decode cM_fits 143 = .ok (.ireturn, 1) := by decide +kernel
theorem dM_fits_144 : decode cM_fits 144 = .ok (.iload 5, 2) := by decide +kernel
theorem dM_fits_146 : decode cM_fits 146 = .ok (.ifCond .eq 23, 3) := by decide +kernel
theorem dM_fits_149 : decode cM_fits 149 = .ok (.aload_n 0, 1) := by decide +kernel
theorem dM_fits_150 : decode cM_fits 150 = .ok (.getfield 16, 3) := by decide +kernel
theorem dM_fits_153 : decode cM_fits 153 = .ok (.iload_n 1, 1) := by decide +kernel
theorem dM_fits_154 : decode cM_fits 154 = .ok (.iaload, 1) := by decide +kernel
theorem dM_fits_155 : decode cM_fits 155 = .ok (.aload_n 0, 1) := by decide +kernel
theorem dM_fits_156 : decode cM_fits 156 = .ok (.getfield 16, 3) := by decide +kernel
theorem dM_fits_159 : decode cM_fits 159 = .ok (.iload 4, 2) := by decide +kernel
theorem dM_fits_161 : decode cM_fits 161 = .ok (.iaload, 1) := by decide +kernel
theorem dM_fits_162 : decode cM_fits 162 = .ok (.if_icmp .ne 7, 3) := by decide +kernel
theorem dM_fits_165 : decode cM_fits 165 = .ok (.iconst 1, 1) := by decide +kernel
theorem dM_fits_166 : decode cM_fits 166 = .ok (.goto 4, 3) := by decide +kernel
theorem dM_fits_169 : decode cM_fits 169 = .ok (.iconst 0, 1) := by decide +kernel
theorem dM_fits_170 : decode cM_fits 170 = .ok (.ireturn, 1) := by decide +kernel
theorem dM_fits_171 : decode cM_fits 171 = .ok (.iload 5, 2) := by decide +kernel
theorem dM_fits_173 : decode cM_fits 173 = .ok (.ifCond .eq 22, 3) := by decide +kernel
theorem dM_fits_176 : decode cM_fits 176 = .ok (.aload_n 0, 1) := by decide +kernel
theorem dM_fits_177 : decode cM_fits 177 = .ok (.getfield 16, 3) := by decide +kernel
theorem dM_fits_180 : decode cM_fits 180 = .ok (.iload_n 1, 1) := by decide +kernel
theorem dM_fits_181 : decode cM_fits 181 = .ok (.iaload, 1) := by decide +kernel
theorem dM_fits_182 : decode cM_fits 182 = .ok (.aload_n 0, 1) := by decide +kernel
theorem dM_fits_183 : decode cM_fits 183 = .ok (.getfield 25, 3) := by decide +kernel
theorem dM_fits_186 : decode cM_fits 186 = .ok (.iload_n 2, 1) := by decide +kernel
theorem dM_fits_187 : decode cM_fits 187 = .ok (.iaload, 1) := by decide +kernel
theorem dM_fits_188 : decode cM_fits 188 = .ok (.if_icmp .lt 7, 3) := by decide +kernel
theorem dM_fits_191 : decode cM_fits 191 = .ok (.iconst 1, 1) := by decide +kernel
theorem dM_fits_192 : decode cM_fits 192 = .ok (.goto 4, 3) := by decide +kernel
theorem dM_fits_195 : decode cM_fits 195 = .ok (.iconst 0, 1) := by decide +kernel
theorem dM_fits_196 : decode cM_fits 196 = .ok (.ireturn, 1) := by decide +kernel
theorem dM_fits_197 : decode cM_fits 197 = .ok (.iload 5, 2) := by decide +kernel
theorem dM_fits_199 : decode cM_fits 199 = .ok (.ireturn, 1) := by decide +kernel
theorem dM_waysFrom_0 : decode cM_waysFrom 0 = .ok (.aload_n 0, 1) := by decide +kernel
theorem dM_waysFrom_1 : decode cM_waysFrom 1 = .ok (.invokevirtual 66, 3) := by decide +kernel
theorem dM_waysFrom_4 : decode cM_waysFrom 4 = .ok (.istore 5, 2) := by decide +kernel
theorem dM_waysFrom_6 : decode cM_waysFrom 6 = .ok (.iconst 0, 1) := by decide +kernel
theorem dM_waysFrom_7 : decode cM_waysFrom 7 = .ok (.istore 6, 2) := by decide +kernel
theorem dM_waysFrom_9 : decode cM_waysFrom 9 = .ok (.iload 6, 2) := by decide +kernel
theorem dM_waysFrom_11 : decode cM_waysFrom 11 = .ok (.bipush 80, 2) := by decide +kernel
theorem dM_waysFrom_13 : decode cM_waysFrom 13 = .ok (.if_icmp .ge 17, 3) := by decide +kernel
theorem dM_waysFrom_16 : decode cM_waysFrom 16 = .ok (.aload_n 0, 1) := by decide +kernel
theorem dM_waysFrom_17 : decode cM_waysFrom 17 = .ok (.getfield 32, 3) := by decide +kernel
theorem dM_waysFrom_20 : decode cM_waysFrom 20 = .ok (.iload 6, 2) := by decide +kernel
theorem dM_waysFrom_22 : decode cM_waysFrom 22 = .ok (.iconst 0, 1) := by decide +kernel
theorem dM_waysFrom_23 : decode cM_waysFrom 23 = .ok (.iastore, 1) := by decide +kernel
theorem dM_waysFrom_24 : decode cM_waysFrom 24 = .ok (.iinc 6 1, 3) := by decide +kernel
theorem dM_waysFrom_27 : decode cM_waysFrom 27 = .ok (.goto (-18), 3) := by decide +kernel
theorem dM_waysFrom_30 : decode cM_waysFrom 30 = .ok (.aload_n 0, 1) := by decide +kernel
theorem dM_waysFrom_31 : decode cM_waysFrom 31 = .ok (.getfield 32, 3) := by decide +kernel
theorem dM_waysFrom_34 : decode cM_waysFrom 34 = .ok (.iconst 5, 1) := by decide +kernel
theorem dM_waysFrom_35 : decode cM_waysFrom 35 = .ok (.iload_n 2, 1) := by decide +kernel
theorem dM_waysFrom_36 : decode cM_waysFrom 36 = .ok (.iload 5, 2) := by decide +kernel
theorem dM_waysFrom_38 : decode cM_waysFrom 38 = .ok (.isub, 1) := by decide +kernel
theorem dM_waysFrom_39 : decode cM_waysFrom 39 = .ok (.imul, 1) := by decide +kernel
theorem dM_waysFrom_40 : decode cM_waysFrom 40 = .ok (.iload_n 3, 1) := by decide +kernel
theorem dM_waysFrom_41 : decode cM_waysFrom 41 = .ok (.iadd, 1) := by decide +kernel
theorem dM_waysFrom_42 : decode cM_waysFrom 42 = .ok (.iconst 1, 1) := by decide +kernel
theorem dM_waysFrom_43 : decode cM_waysFrom 43 = .ok (.iastore, 1) := by decide +kernel
theorem dM_waysFrom_44 : decode cM_waysFrom 44 = .ok (.iconst 0, 1) := by decide +kernel
theorem dM_waysFrom_45 : decode cM_waysFrom 45 = .ok (.istore 6, 2) := by decide +kernel
theorem dM_waysFrom_47 : decode cM_waysFrom 47 = .ok (.iload_n 2, 1) := by decide +kernel
theorem dM_waysFrom_48 : decode cM_waysFrom 48 = .ok (.istore 7, 2) := by decide +kernel
theorem dM_waysFrom_50 : decode cM_waysFrom 50 = .ok (.iload 7, 2) := by decide +kernel
theorem dM_waysFrom_52 : decode cM_waysFrom 52 = .ok (.aload_n 0, 1) := by decide +kernel
theorem dM_waysFrom_53 : decode cM_waysFrom 53 = .ok (.getfield 45, 3) := by decide +kernel
theorem dM_waysFrom_56 : decode cM_waysFrom 56 = .ok (.if_icmp .ge 230, 3) := by decide +kernel
theorem dM_waysFrom_59 : decode cM_waysFrom 59 = .ok (.aload_n 0, 1) := by decide +kernel
theorem dM_waysFrom_60 : decode cM_waysFrom 60 = .ok (.getfield 57, 3) := by decide +kernel
theorem dM_waysFrom_63 : decode cM_waysFrom 63 = .ok (.ifCond .ne 21, 3) := by decide +kernel
theorem dM_waysFrom_66 : decode cM_waysFrom 66 = .ok (.iload 7, 2) := by decide +kernel
theorem dM_waysFrom_68 : decode cM_waysFrom 68 = .ok (.iconst 2, 1) := by decide +kernel
theorem dM_waysFrom_69 : decode cM_waysFrom 69 = .ok (.iadd, 1) := by decide +kernel
theorem dM_waysFrom_70 : decode cM_waysFrom 70 = .ok (.aload_n 0, 1) := by decide +kernel
theorem dM_waysFrom_71 : decode cM_waysFrom 71 = .ok (.getfield 45, 3) := by decide +kernel
theorem dM_waysFrom_74 : decode cM_waysFrom 74 = .ok (.if_icmp .ge 10, 3) := by decide +kernel
theorem dM_waysFrom_77 : decode cM_waysFrom 77 = .ok (.iload 7, 2) := by decide +kernel
theorem dM_waysFrom_79 : decode cM_waysFrom 79 = .ok (.iconst 2, 1) := by decide +kernel
theorem dM_waysFrom_80 : decode cM_waysFrom 80 = .ok (.iadd, 1) := by decide +kernel
theorem dM_waysFrom_81 : decode cM_waysFrom 81 = .ok (.goto 7, 3) := by decide +kernel
theorem dM_waysFrom_84 : decode cM_waysFrom 84 = .ok (.aload_n 0, 1) := by decide +kernel
theorem dM_waysFrom_85 : decode cM_waysFrom 85 = .ok (.getfield 45, 3) := by decide +kernel
theorem dM_waysFrom_88 : decode cM_waysFrom 88 = .ok (.istore 8, 2) := by decide +kernel
theorem dM_waysFrom_90 : decode cM_waysFrom 90 = .ok (.iconst 0, 1) := by decide +kernel
theorem dM_waysFrom_91 : decode cM_waysFrom 91 = .ok (.istore 9, 2) := by decide +kernel
theorem dM_waysFrom_93 : decode cM_waysFrom 93 = .ok (.iload 9, 2) := by decide +kernel
theorem dM_waysFrom_95 : decode cM_waysFrom 95 = .ok (.aload_n 0, 1) := by decide +kernel
theorem dM_waysFrom_96 : decode cM_waysFrom 96 = .ok (.getfield 63, 3) := by decide +kernel
theorem dM_waysFrom_99 : decode cM_waysFrom 99 = .ok (.if_icmp .ge 181, 3) := by decide +kernel
theorem dM_waysFrom_102 : decode cM_waysFrom 102 = .ok (.aload_n 0, 1) := by decide +kernel
theorem dM_waysFrom_103 : decode cM_waysFrom 103 = .ok (.getfield 32, 3) := by decide +kernel
theorem dM_waysFrom_106 : decode cM_waysFrom 106 = .ok (.iconst 5, 1) := by decide +kernel
theorem dM_waysFrom_107 : decode cM_waysFrom 107 = .ok (.iload 7, 2) := by decide +kernel
theorem dM_waysFrom_109 : decode cM_waysFrom 109 = .ok (.iload 5, 2) := by decide +kernel
theorem dM_waysFrom_111 : decode cM_waysFrom 111 = .ok (.isub, 1) := by decide +kernel
theorem dM_waysFrom_112 : decode cM_waysFrom 112 = .ok (.imul, 1) := by decide +kernel
theorem dM_waysFrom_113 : decode cM_waysFrom 113 = .ok (.iload 9, 2) := by decide +kernel
theorem dM_waysFrom_115 : decode cM_waysFrom 115 = .ok (.iadd, 1) := by decide +kernel
theorem dM_waysFrom_116 : decode cM_waysFrom 116 = .ok (.iaload, 1) := by decide +kernel
theorem dM_waysFrom_117 : decode cM_waysFrom 117 = .ok (.istore 10, 2) := by decide +kernel
theorem dM_waysFrom_119 : decode cM_waysFrom 119 = .ok (.iload 9, 2) := by decide +kernel
theorem dM_waysFrom_121 : decode cM_waysFrom 121 = .ok (.aload_n 0, 1) := by decide +kernel
theorem dM_waysFrom_122 : decode cM_waysFrom 122 = .ok (.getfield 63, 3) := by decide +kernel
theorem dM_waysFrom_125 : decode cM_waysFrom 125 = .ok (.iconst 1, 1) := by decide +kernel
theorem dM_waysFrom_126 : decode cM_waysFrom 126 = .ok (.isub, 1) := by decide +kernel
theorem dM_waysFrom_127 : decode cM_waysFrom 127 = .ok (.if_icmp .ne 27, 3) := by decide +kernel
theorem dM_waysFrom_130 : decode cM_waysFrom 130 = .ok (.iload 4, 2) := by decide +kernel
theorem dM_waysFrom_132 : decode cM_waysFrom 132 = .ok (.ifCond .eq 14, 3) := by decide +kernel
theorem dM_waysFrom_135 : decode cM_waysFrom 135 = .ok (.iload 7, 2) := by decide +kernel
theorem dM_waysFrom_137 : decode cM_waysFrom 137 = .ok (.aload_n 0, 1) := by decide +kernel
theorem dM_waysFrom_138 : decode cM_waysFrom 138 = .ok (.getfield 45, 3) := by decide +kernel
theorem dM_waysFrom_141 : decode cM_waysFrom 141 = .ok (.iconst 1, 1) := by decide +kernel
theorem dM_waysFrom_142 : decode cM_waysFrom 142 = .ok (.isub, 1) := by decide +kernel
theorem dM_waysFrom_143 : decode cM_waysFrom 143 = .ok (.if_icmp .ne 11, 3) := by decide +kernel
theorem dM_waysFrom_146 : decode cM_waysFrom 146 = .ok (.iload 6, 2) := by decide +kernel
theorem dM_waysFrom_148 : decode cM_waysFrom 148 = .ok (.iload 10, 2) := by decide +kernel
theorem dM_waysFrom_150 : decode cM_waysFrom 150 = .ok (.iadd, 1) := by decide +kernel
theorem dM_waysFrom_151 : decode cM_waysFrom 151 = .ok (.goto 5, 3) := by decide +kernel
theorem dM_waysFrom_154 : decode cM_waysFrom 154 = .ok (.iload 6, 2) := by decide +kernel
theorem dM_waysFrom_156 : decode cM_waysFrom 156 = .ok (.istore 6, 2) := by decide +kernel
theorem dM_waysFrom_158 : decode cM_waysFrom 158 = .ok (.iload 7, 2) := by decide +kernel
theorem dM_waysFrom_160 : decode cM_waysFrom 160 = .ok (.iconst 1, 1) := by decide +kernel
theorem dM_waysFrom_161 : decode cM_waysFrom 161 = .ok (.iadd, 1) := by decide +kernel
theorem dM_waysFrom_162 : decode cM_waysFrom 162 = .ok (.istore 11, 2) := by decide +kernel
theorem dM_waysFrom_164 : decode cM_waysFrom 164 = .ok (.iload 11, 2) := by decide +kernel
theorem dM_waysFrom_166 : decode cM_waysFrom 166 = .ok (.iload 8, 2) := by decide +kernel
theorem dM_waysFrom_168 : decode cM_waysFrom 168 = .ok (.if_icmp .ge 106, 3) := by decide +kernel
theorem dM_waysFrom_171 : decode cM_waysFrom 171 = .ok (.iload 10, 2) := by decide +kernel
theorem dM_waysFrom_173 : decode cM_waysFrom 173 = .ok (.ifCond .le 101, 3) := by decide +kernel
theorem dM_waysFrom_176 : decode cM_waysFrom 176 = .ok (.iconst 5, 1) := by decide +kernel
theorem dM_waysFrom_177 : decode cM_waysFrom 177 = .ok (.iload 11, 2) := by decide +kernel
theorem dM_waysFrom_179 : decode cM_waysFrom 179 = .ok (.iload 5, 2) := by decide +kernel
theorem dM_waysFrom_181 : decode cM_waysFrom 181 = .ok (.isub, 1) := by decide +kernel
theorem dM_waysFrom_182 : decode cM_waysFrom 182 = .ok (.imul, 1) := by decide +kernel
theorem dM_waysFrom_183 : decode cM_waysFrom 183 = .ok (.istore 12, 2) := by decide +kernel
theorem dM_waysFrom_185 : decode cM_waysFrom 185 = .ok (.aload_n 0, 1) := by decide +kernel
theorem dM_waysFrom_186 : decode cM_waysFrom 186 = .ok (.getfield 28, 3) := by decide +kernel
theorem dM_waysFrom_189 : decode cM_waysFrom 189 = .ok (.iload 9, 2) := by decide +kernel
theorem dM_waysFrom_191 : decode cM_waysFrom 191 = .ok (.baload, 1) := by decide +kernel
theorem dM_waysFrom_192 : decode cM_waysFrom 192 = .ok (.ifCond .eq 32, 3) := by decide +kernel
theorem dM_waysFrom_195 : decode cM_waysFrom 195 = .ok (.aload_n 0, 1) := by decide +kernel
theorem dM_waysFrom_196 : decode cM_waysFrom 196 = .ok (.iload 11, 2) := by decide +kernel
theorem dM_waysFrom_198 : decode cM_waysFrom 198 = .ok (.iload 9, 2) := by decide +kernel
theorem dM_waysFrom_200 : decode cM_waysFrom 200 = .ok (.iload 7, 2) := by decide +kernel
theorem dM_waysFrom_202 : decode cM_waysFrom 202 = .ok (.iload_n 1, 1) := by decide +kernel
theorem dM_waysFrom_203 : decode cM_waysFrom 203 = .ok (.invokevirtual 70, 3) := by decide +kernel
theorem dM_waysFrom_206 : decode cM_waysFrom 206 = .ok (.ifCond .eq 18, 3) := by decide +kernel
theorem dM_waysFrom_209 : decode cM_waysFrom 209 = .ok (.aload_n 0, 1) := by decide +kernel
theorem dM_waysFrom_210 : decode cM_waysFrom 210 = .ok (.getfield 32, 3) := by decide +kernel
theorem dM_waysFrom_213 : decode cM_waysFrom 213 = .ok (.iload 12, 2) := by decide +kernel
theorem dM_waysFrom_215 : decode cM_waysFrom 215 = .ok (.iload 9, 2) := by decide +kernel
theorem dM_waysFrom_217 : decode cM_waysFrom 217 = .ok (.iadd, 1) := by decide +kernel
theorem dM_waysFrom_218 : decode cM_waysFrom 218 = .ok (.dup2, 1) := by decide +kernel
theorem dM_waysFrom_219 : decode cM_waysFrom 219 = .ok (.iaload, 1) := by decide +kernel
theorem dM_waysFrom_220 : decode cM_waysFrom 220 = .ok (.iload 10, 2) := by decide +kernel
theorem dM_waysFrom_222 : decode cM_waysFrom 222 = .ok (.iadd, 1) := by decide +kernel
theorem dM_waysFrom_223 : decode cM_waysFrom 223 = .ok (.iastore, 1) := by decide +kernel
theorem dM_waysFrom_224 : decode cM_waysFrom 224 = .ok (.iload 9, 2) := by decide +kernel
theorem dM_waysFrom_226 : decode cM_waysFrom 226 = .ok (.iconst 1, 1) := by decide +kernel
theorem dM_waysFrom_227 : decode cM_waysFrom 227 = .ok (.iadd, 1) := by decide +kernel
theorem dM_waysFrom_228 : decode cM_waysFrom 228 = .ok (.aload_n 0, 1) := by decide +kernel
theorem dM_waysFrom_229 : decode cM_waysFrom 229 = .ok (.getfield 63, 3) := by decide +kernel
theorem dM_waysFrom_232 : decode cM_waysFrom 232 = .ok (.if_icmp .ge 36, 3) := by decide +kernel
theorem dM_waysFrom_235 : decode cM_waysFrom 235 = .ok (.aload_n 0, 1) := by decide +kernel
theorem dM_waysFrom_236 : decode cM_waysFrom 236 = .ok (.iload 11, 2) := by decide +kernel
theorem dM_waysFrom_238 : decode cM_waysFrom 238 = .ok (.iload 9, 2) := by decide +kernel
theorem dM_waysFrom_240 : decode cM_waysFrom 240 = .ok (.iconst 1, 1) := by decide +kernel
theorem dM_waysFrom_241 : decode cM_waysFrom 241 = .ok (.iadd, 1) := by decide +kernel
theorem dM_waysFrom_242 : decode cM_waysFrom 242 = .ok (.iload 7, 2) := by decide +kernel
theorem dM_waysFrom_244 : decode cM_waysFrom 244 = .ok (.iload_n 1, 1) := by decide +kernel
theorem dM_waysFrom_245 : decode cM_waysFrom 245 = .ok (.invokevirtual 70, 3) := by decide +kernel
theorem dM_waysFrom_248 : decode cM_waysFrom 248 = .ok (.ifCond .eq 20, 3) := by decide +kernel
theorem dM_waysFrom_251 : decode cM_waysFrom 251 = .ok (.aload_n 0, 1) := by decide +kernel
theorem dM_waysFrom_252 : decode cM_waysFrom 252 = .ok (.getfield 32, 3) := by decide +kernel
theorem dM_waysFrom_255 : decode cM_waysFrom 255 = .ok (.iload 12, 2) := by decide +kernel
theorem dM_waysFrom_257 : decode cM_waysFrom 257 = .ok (.iload 9, 2) := by decide +kernel
theorem dM_waysFrom_259 : decode cM_waysFrom 259 = .ok (.iadd, 1) := by decide +kernel
theorem dM_waysFrom_260 : decode cM_waysFrom 260 = .ok (.iconst 1, 1) := by decide +kernel
theorem dM_waysFrom_261 : decode cM_waysFrom 261 = .ok (.iadd, 1) := by decide +kernel
theorem dM_waysFrom_262 : decode cM_waysFrom 262 = .ok (.dup2, 1) := by decide +kernel
theorem dM_waysFrom_263 : decode cM_waysFrom 263 = .ok (.iaload, 1) := by decide +kernel
theorem dM_waysFrom_264 : decode cM_waysFrom 264 = .ok (.iload 10, 2) := by decide +kernel
theorem dM_waysFrom_266 : decode cM_waysFrom 266 = .ok (.iadd, 1) := by decide +kernel
theorem dM_waysFrom_267 : decode cM_waysFrom 267 = .ok (.iastore, 1) := by decide +kernel
theorem dM_waysFrom_268 : decode cM_waysFrom 268 = .ok (.iinc 11 1, 3) := by decide +kernel
theorem dM_waysFrom_271 : decode cM_waysFrom 271 = .ok (.goto (-107), 3) := by decide +kernel
theorem dM_waysFrom_274 : decode cM_waysFrom 274 = .ok (.iinc 9 1, 3) := by decide +kernel
theorem dM_waysFrom_277 : decode cM_waysFrom 277 = .ok (.goto (-184), 3) := by decide +kernel
theorem dM_waysFrom_280 : decode cM_waysFrom 280 = .ok (.iinc 7 1, 3) := by decide +kernel
theorem dM_waysFrom_283 : decode cM_waysFrom 283 = .ok (.goto (-233), 3) := by decide +kernel
theorem dM_waysFrom_286 : decode cM_waysFrom 286 = .ok (.iload 6, 2) := by decide +kernel
theorem dM_waysFrom_288 : decode cM_waysFrom 288 = .ok (.ireturn, 1) := by decide +kernel
theorem dM_all_0 : decode cM_all 0 = .ok (.iconst 0, 1) := by decide +kernel
theorem dM_all_1 : decode cM_all 1 = .ok (.istore_n 2, 1) := by decide +kernel
theorem dM_all_2 : decode cM_all 2 = .ok (.aload_n 0, 1) := by decide +kernel
theorem dM_all_3 : decode cM_all 3 = .ok (.invokevirtual 66, 3) := by decide +kernel
theorem dM_all_6 : decode cM_all 6 = .ok (.istore_n 3, 1) := by decide +kernel
theorem dM_all_7 : decode cM_all 7 = .ok (.iload_n 3, 1) := by decide +kernel
theorem dM_all_8 : decode cM_all 8 = .ok (.aload_n 0, 1) := by decide +kernel
theorem dM_all_9 : decode cM_all 9 = .ok (.getfield 45, 3) := by decide +kernel
theorem dM_all_12 : decode cM_all 12 = .ok (.if_icmp .ge 35, 3) := by decide +kernel
theorem dM_all_15 : decode cM_all 15 = .ok (.aload_n 0, 1) := by decide +kernel
theorem dM_all_16 : decode cM_all 16 = .ok (.iload_n 3, 1) := by decide +kernel
theorem dM_all_17 : decode cM_all 17 = .ok (.iconst 0, 1) := by decide +kernel
theorem dM_all_18 : decode cM_all 18 = .ok (.iconst (-1), 1) := by decide +kernel
theorem dM_all_19 : decode cM_all 19 = .ok (.iload_n 3, 1) := by decide +kernel
theorem dM_all_20 : decode cM_all 20 = .ok (.invokevirtual 70, 3) := by decide +kernel
theorem dM_all_23 : decode cM_all 23 = .ok (.ifCond .eq 16, 3) := by decide +kernel
theorem dM_all_26 : decode cM_all 26 = .ok (.iload_n 2, 1) := by decide +kernel
theorem dM_all_27 : decode cM_all 27 = .ok (.aload_n 0, 1) := by decide +kernel
theorem dM_all_28 : decode cM_all 28 = .ok (.iload_n 3, 1) := by decide +kernel
theorem dM_all_29 : decode cM_all 29 = .ok (.iload_n 3, 1) := by decide +kernel
theorem dM_all_30 : decode cM_all 30 = .ok (.iconst 0, 1) := by decide +kernel
theorem dM_all_31 : decode cM_all 31 = .ok (.iload_n 1, 1) := by decide +kernel
theorem dM_all_32 : decode cM_all 32 = .ok (.invokevirtual 74, 3) := by decide +kernel
theorem dM_all_35 : decode cM_all 35 = .ok (.iadd, 1) := by decide +kernel
theorem dM_all_36 : decode cM_all 36 = .ok (.goto 4, 3) := by decide +kernel
theorem dM_all_39 : decode cM_all 39 = .ok (.iload_n 2, 1) := by decide +kernel
theorem dM_all_40 : decode cM_all 40 = .ok (.istore_n 2, 1) := by decide +kernel
theorem dM_all_41 : decode cM_all 41 = .ok (.iinc 3 1, 3) := by decide +kernel
theorem dM_all_44 : decode cM_all 44 = .ok (.goto (-37), 3) := by decide +kernel
theorem dM_all_47 : decode cM_all 47 = .ok (.iload_n 2, 1) := by decide +kernel
theorem dM_all_48 : decode cM_all 48 = .ok (.ireturn, 1) := by decide +kernel
theorem dM_count_0 : decode cM_count 0 = .ok (.aload_n 0, 1) := by decide +kernel
theorem dM_count_1 : decode cM_count 1 = .ok (.aload_n 0, 1) := by decide +kernel
theorem dM_count_2 : decode cM_count 2 = .ok (.getfield 63, 3) := by decide +kernel
theorem dM_count_5 : decode cM_count 5 = .ok (.ifCond .ne 7, 3) := by decide +kernel
theorem dM_count_8 : decode cM_count 8 = .ok (.iconst 1, 1) := by decide +kernel
theorem dM_count_9 : decode cM_count 9 = .ok (.goto 4, 3) := by decide +kernel
theorem dM_count_12 : decode cM_count 12 = .ok (.iconst 0, 1) := by decide +kernel
theorem dM_count_13 : decode cM_count 13 = .ok (.iconst 0, 1) := by decide +kernel
theorem dM_count_14 : decode cM_count 14 = .ok (.iconst 0, 1) := by decide +kernel
theorem dM_count_15 : decode cM_count 15 = .ok (.invokevirtual 53, 3) := by decide +kernel
theorem dM_count_18 : decode cM_count 18 = .ok (.ifCond .eq 7, 3) := by decide +kernel
theorem dM_count_21 : decode cM_count 21 = .ok (.iconst 0, 1) := by decide +kernel
theorem dM_count_22 : decode cM_count 22 = .ok (.goto 8, 3) := by decide +kernel
theorem dM_count_25 : decode cM_count 25 = .ok (.aload_n 0, 1) := by decide +kernel
theorem dM_count_26 : decode cM_count 26 = .ok (.iconst 0, 1) := by decide +kernel
theorem dM_count_27 : decode cM_count 27 = .ok (.invokevirtual 78, 3) := by decide +kernel
theorem dM_count_30 : decode cM_count 30 = .ok (.ireturn, 1) := by decide +kernel
theorem dM_latest_0 : decode cM_latest 0 = .ok (.aload_n 0, 1) := by decide +kernel
theorem dM_latest_1 : decode cM_latest 1 = .ok (.aload_n 0, 1) := by decide +kernel
theorem dM_latest_2 : decode cM_latest 2 = .ok (.getfield 63, 3) := by decide +kernel
theorem dM_latest_5 : decode cM_latest 5 = .ok (.ifCond .ne 7, 3) := by decide +kernel
theorem dM_latest_8 : decode cM_latest 8 = .ok (.iconst 1, 1) := by decide +kernel
theorem dM_latest_9 : decode cM_latest 9 = .ok (.goto 4, 3) := by decide +kernel
theorem dM_latest_12 : decode cM_latest 12 = .ok (.iconst 0, 1) := by decide +kernel
theorem dM_latest_13 : decode cM_latest 13 = .ok (.iconst 0, 1) := by decide +kernel
theorem dM_latest_14 : decode cM_latest 14 = .ok (.iconst 0, 1) := by decide +kernel
theorem dM_latest_15 : decode cM_latest 15 = .ok (.invokevirtual 53, 3) := by decide +kernel
theorem dM_latest_18 : decode cM_latest 18 = .ok (.ifCond .eq 7, 3) := by decide +kernel
theorem dM_latest_21 : decode cM_latest 21 = .ok (.iconst 0, 1) := by decide +kernel
theorem dM_latest_22 : decode cM_latest 22 = .ok (.goto 8, 3) := by decide +kernel
theorem dM_latest_25 : decode cM_latest 25 = .ok (.aload_n 0, 1) := by decide +kernel
theorem dM_latest_26 : decode cM_latest 26 = .ok (.iconst 1, 1) := by decide +kernel
theorem dM_latest_27 : decode cM_latest 27 = .ok (.invokevirtual 78, 3) := by decide +kernel
theorem dM_latest_30 : decode cM_latest 30 = .ok (.ireturn, 1) := by decide +kernel
theorem dM_notes_0 : decode cM_notes 0 = .ok (.aload_n 0, 1) := by decide +kernel
theorem dM_notes_1 : decode cM_notes 1 = .ok (.getfield 35, 3) := by decide +kernel
theorem dM_notes_4 : decode cM_notes 4 = .ok (.aload_n 0, 1) := by decide +kernel
theorem dM_notes_5 : decode cM_notes 5 = .ok (.getfield 82, 3) := by decide +kernel
theorem dM_notes_8 : decode cM_notes 8 = .ok (.iload_n 1, 1) := by decide +kernel
theorem dM_notes_9 : decode cM_notes 9 = .ok (.iastore, 1) := by decide +kernel
theorem dM_notes_10 : decode cM_notes 10 = .ok (.aload_n 0, 1) := by decide +kernel
theorem dM_notes_11 : decode cM_notes 11 = .ok (.getfield 38, 3) := by decide +kernel
theorem dM_notes_14 : decode cM_notes 14 = .ok (.aload_n 0, 1) := by decide +kernel
theorem dM_notes_15 : decode cM_notes 15 = .ok (.getfield 82, 3) := by decide +kernel
theorem dM_notes_18 : decode cM_notes 18 = .ok (.iload_n 2, 1) := by decide +kernel
theorem dM_notes_19 : decode cM_notes 19 = .ok (.iastore, 1) := by decide +kernel
theorem dM_notes_20 : decode cM_notes 20 = .ok (.aload_n 0, 1) := by decide +kernel
theorem dM_notes_21 : decode cM_notes 21 = .ok (.dup, 1) := by decide +kernel
theorem dM_notes_22 : decode cM_notes 22 = .ok (.getfield 82, 3) := by decide +kernel
theorem dM_notes_25 : decode cM_notes 25 = .ok (.iconst 1, 1) := by decide +kernel
theorem dM_notes_26 : decode cM_notes 26 = .ok (.iadd, 1) := by decide +kernel
theorem dM_notes_27 : decode cM_notes 27 = .ok (.putfield 82, 3) := by decide +kernel
theorem dM_notes_30 : decode cM_notes 30 = .ok (.return_, 1) := by decide +kernel
theorem dM_find_0 : decode cM_find 0 = .ok (.aload_n 0, 1) := by decide +kernel
theorem dM_find_1 : decode cM_find 1 = .ok (.iconst 0, 1) := by decide +kernel
theorem dM_find_2 : decode cM_find 2 = .ok (.putfield 82, 3) := by decide +kernel
theorem dM_find_5 : decode cM_find 5 = .ok (.iload_n 1, 1) := by decide +kernel
theorem dM_find_6 : decode cM_find 6 = .ok (.istore_n 2, 1) := by decide +kernel
theorem dM_find_7 : decode cM_find 7 = .ok (.aload_n 0, 1) := by decide +kernel
theorem dM_find_8 : decode cM_find 8 = .ok (.invokevirtual 66, 3) := by decide +kernel
theorem dM_find_11 : decode cM_find 11 = .ok (.istore_n 3, 1) := by decide +kernel
theorem dM_find_12 : decode cM_find 12 = .ok (.iload_n 1, 1) := by decide +kernel
theorem dM_find_13 : decode cM_find 13 = .ok (.ifCond .lt 7, 3) := by decide +kernel
theorem dM_find_16 : decode cM_find 16 = .ok (.iconst 1, 1) := by decide +kernel
theorem dM_find_17 : decode cM_find 17 = .ok (.goto 4, 3) := by decide +kernel
theorem dM_find_20 : decode cM_find 20 = .ok (.iconst 0, 1) := by decide +kernel
theorem dM_find_21 : decode cM_find 21 = .ok (.istore 4, 2) := by decide +kernel
theorem dM_find_23 : decode cM_find 23 = .ok (.iload 4, 2) := by decide +kernel
theorem dM_find_25 : decode cM_find 25 = .ok (.ifCond .eq 79, 3) := by decide +kernel
theorem dM_find_28 : decode cM_find 28 = .ok (.iload_n 3, 1) := by decide +kernel
theorem dM_find_29 : decode cM_find 29 = .ok (.aload_n 0, 1) := by decide +kernel
theorem dM_find_30 : decode cM_find 30 = .ok (.getfield 45, 3) := by decide +kernel
theorem dM_find_33 : decode cM_find 33 = .ok (.if_icmp .ge 71, 3) := by decide +kernel
theorem dM_find_36 : decode cM_find 36 = .ok (.aload_n 0, 1) := by decide +kernel
theorem dM_find_37 : decode cM_find 37 = .ok (.iload_n 3, 1) := by decide +kernel
theorem dM_find_38 : decode cM_find 38 = .ok (.iconst 0, 1) := by decide +kernel
theorem dM_find_39 : decode cM_find 39 = .ok (.iconst (-1), 1) := by decide +kernel
theorem dM_find_40 : decode cM_find 40 = .ok (.iload_n 3, 1) := by decide +kernel
theorem dM_find_41 : decode cM_find 41 = .ok (.invokevirtual 70, 3) := by decide +kernel
theorem dM_find_44 : decode cM_find 44 = .ok (.ifCond .eq 14, 3) := by decide +kernel
theorem dM_find_47 : decode cM_find 47 = .ok (.aload_n 0, 1) := by decide +kernel
theorem dM_find_48 : decode cM_find 48 = .ok (.iload_n 3, 1) := by decide +kernel
theorem dM_find_49 : decode cM_find 49 = .ok (.iload_n 3, 1) := by decide +kernel
theorem dM_find_50 : decode cM_find 50 = .ok (.iconst 0, 1) := by decide +kernel
theorem dM_find_51 : decode cM_find 51 = .ok (.iconst 0, 1) := by decide +kernel
theorem dM_find_52 : decode cM_find 52 = .ok (.invokevirtual 74, 3) := by decide +kernel
theorem dM_find_55 : decode cM_find 55 = .ok (.goto 4, 3) := by decide +kernel
theorem dM_find_58 : decode cM_find 58 = .ok (.iconst 0, 1) := by decide +kernel
theorem dM_find_59 : decode cM_find 59 = .ok (.istore 5, 2) := by decide +kernel
theorem dM_find_61 : decode cM_find 61 = .ok (.iload_n 2, 1) := by decide +kernel
theorem dM_find_62 : decode cM_find 62 = .ok (.iload 5, 2) := by decide +kernel
theorem dM_find_64 : decode cM_find 64 = .ok (.if_icmp .lt 7, 3) := by decide +kernel
theorem dM_find_67 : decode cM_find 67 = .ok (.iconst 1, 1) := by decide +kernel
theorem dM_find_68 : decode cM_find 68 = .ok (.goto 4, 3) := by decide +kernel
theorem dM_find_71 : decode cM_find 71 = .ok (.iconst 0, 1) := by decide +kernel
theorem dM_find_72 : decode cM_find 72 = .ok (.istore 4, 2) := by decide +kernel
theorem dM_find_74 : decode cM_find 74 = .ok (.iload 4, 2) := by decide +kernel
theorem dM_find_76 : decode cM_find 76 = .ok (.ifCond .eq 10, 3) := by decide +kernel
theorem dM_find_79 : decode cM_find 79 = .ok (.iload_n 2, 1) := by decide +kernel
theorem dM_find_80 : decode cM_find 80 = .ok (.iload 5, 2) := by decide +kernel
theorem dM_find_82 : decode cM_find 82 = .ok (.isub, 1) := by decide +kernel
theorem dM_find_83 : decode cM_find 83 = .ok (.goto 4, 3) := by decide +kernel
theorem dM_find_86 : decode cM_find 86 = .ok (.iload_n 2, 1) := by decide +kernel
theorem dM_find_87 : decode cM_find 87 = .ok (.istore_n 2, 1) := by decide +kernel
theorem dM_find_88 : decode cM_find 88 = .ok (.iload 4, 2) := by decide +kernel
theorem dM_find_90 : decode cM_find 90 = .ok (.ifCond .eq 9, 3) := by decide +kernel
theorem dM_find_93 : decode cM_find 93 = .ok (.iload_n 3, 1) := by decide +kernel
theorem dM_find_94 : decode cM_find 94 = .ok (.iconst 1, 1) := by decide +kernel
theorem dM_find_95 : decode cM_find 95 = .ok (.iadd, 1) := by decide +kernel
theorem dM_find_96 : decode cM_find 96 = .ok (.goto 4, 3) := by decide +kernel
theorem dM_find_99 : decode cM_find 99 = .ok (.iload_n 3, 1) := by decide +kernel
theorem dM_find_100 : decode cM_find 100 = .ok (.istore_n 3, 1) := by decide +kernel
theorem dM_find_101 : decode cM_find 101 = .ok (.goto (-78), 3) := by decide +kernel
theorem dM_find_104 : decode cM_find 104 = .ok (.iload 4, 2) := by decide +kernel
theorem dM_find_106 : decode cM_find 106 = .ok (.ifCond .ne 7, 3) := by decide +kernel
theorem dM_find_109 : decode cM_find 109 = .ok (.iload_n 1, 1) := by decide +kernel
theorem dM_find_110 : decode cM_find 110 = .ok (.ifCond .ge 5, 3) := by decide +kernel
theorem dM_find_113 : decode cM_find 113 = .ok (.iconst 0, 1) := by decide +kernel
theorem dM_find_114 : decode cM_find 114 = .ok (.ireturn, 1) := by decide +kernel
theorem dM_find_115 : decode cM_find 115 = .ok (.iload_n 3, 1) := by decide +kernel
theorem dM_find_116 : decode cM_find 116 = .ok (.istore 5, 2) := by decide +kernel
theorem dM_find_118 : decode cM_find 118 = .ok (.iconst 0, 1) := by decide +kernel
theorem dM_find_119 : decode cM_find 119 = .ok (.istore 6, 2) := by decide +kernel
theorem dM_find_121 : decode cM_find 121 = .ok (.aload_n 0, 1) := by decide +kernel
theorem dM_find_122 : decode cM_find 122 = .ok (.iload 5, 2) := by decide +kernel
theorem dM_find_124 : decode cM_find 124 = .ok (.iload 6, 2) := by decide +kernel
theorem dM_find_126 : decode cM_find 126 = .ok (.invokevirtual 85, 3) := by decide +kernel
theorem dM_find_129 : decode cM_find 129 = .ok (.iload 6, 2) := by decide +kernel
theorem dM_find_131 : decode cM_find 131 = .ok (.aload_n 0, 1) := by decide +kernel
theorem dM_find_132 : decode cM_find 132 = .ok (.getfield 63, 3) := by decide +kernel
theorem dM_find_135 : decode cM_find 135 = .ok (.iconst 1, 1) := by decide +kernel
theorem dM_find_136 : decode cM_find 136 = .ok (.isub, 1) := by decide +kernel
theorem dM_find_137 : decode cM_find 137 = .ok (.if_icmp .lt 7, 3) := by decide +kernel
theorem dM_find_140 : decode cM_find 140 = .ok (.iload_n 2, 1) := by decide +kernel
theorem dM_find_141 : decode cM_find 141 = .ok (.ifCond .le 209, 3) := by decide +kernel
theorem dM_find_144 : decode cM_find 144 = .ok (.iload 6, 2) := by decide +kernel
theorem dM_find_146 : decode cM_find 146 = .ok (.aload_n 0, 1) := by decide +kernel
theorem dM_find_147 : decode cM_find 147 = .ok (.getfield 63, 3) := by decide +kernel
theorem dM_find_150 : decode cM_find 150 = .ok (.iconst 1, 1) := by decide +kernel
theorem dM_find_151 : decode cM_find 151 = .ok (.isub, 1) := by decide +kernel
theorem dM_find_152 : decode cM_find 152 = .ok (.if_icmp .ne 9, 3) := by decide +kernel
theorem dM_find_155 : decode cM_find 155 = .ok (.iload_n 2, 1) := by decide +kernel
theorem dM_find_156 : decode cM_find 156 = .ok (.iconst 1, 1) := by decide +kernel
theorem dM_find_157 : decode cM_find 157 = .ok (.isub, 1) := by decide +kernel
theorem dM_find_158 : decode cM_find 158 = .ok (.goto 4, 3) := by decide +kernel
theorem dM_find_161 : decode cM_find 161 = .ok (.iload_n 2, 1) := by decide +kernel
theorem dM_find_162 : decode cM_find 162 = .ok (.istore_n 2, 1) := by decide +kernel
theorem dM_find_163 : decode cM_find 163 = .ok (.iload 5, 2) := by decide +kernel
theorem dM_find_165 : decode cM_find 165 = .ok (.iconst 1, 1) := by decide +kernel
theorem dM_find_166 : decode cM_find 166 = .ok (.iadd, 1) := by decide +kernel
theorem dM_find_167 : decode cM_find 167 = .ok (.istore 7, 2) := by decide +kernel
theorem dM_find_169 : decode cM_find 169 = .ok (.iload 6, 2) := by decide +kernel
theorem dM_find_171 : decode cM_find 171 = .ok (.istore 8, 2) := by decide +kernel
theorem dM_find_173 : decode cM_find 173 = .ok (.iconst 0, 1) := by decide +kernel
theorem dM_find_174 : decode cM_find 174 = .ok (.istore 9, 2) := by decide +kernel
theorem dM_find_176 : decode cM_find 176 = .ok (.iload 9, 2) := by decide +kernel
theorem dM_find_178 : decode cM_find 178 = .ok (.ifCond .ne 153, 3) := by decide +kernel
theorem dM_find_181 : decode cM_find 181 = .ok (.iload 8, 2) := by decide +kernel
theorem dM_find_183 : decode cM_find 183 = .ok (.iload 6, 2) := by decide +kernel
theorem dM_find_185 : decode cM_find 185 = .ok (.if_icmp .le 15, 3) := by decide +kernel
theorem dM_find_188 : decode cM_find 188 = .ok (.iload 8, 2) := by decide +kernel
theorem dM_find_190 : decode cM_find 190 = .ok (.aload_n 0, 1) := by decide +kernel
theorem dM_find_191 : decode cM_find 191 = .ok (.getfield 63, 3) := by decide +kernel
theorem dM_find_194 : decode cM_find 194 = .ok (.if_icmp .ge 51, 3) := by decide +kernel
theorem dM_find_197 : decode cM_find 197 = .ok (.goto 13, 3) := by decide +kernel
theorem dM_find_200 : decode cM_find 200 = .ok (.aload_n 0, 1) := by decide +kernel
theorem dM_find_201 : decode cM_find 201 = .ok (.getfield 28, 3) := by decide +kernel
theorem dM_find_204 : decode cM_find 204 = .ok (.iload 6, 2) := by decide +kernel
theorem dM_find_206 : decode cM_find 206 = .ok (.baload, 1) := by decide +kernel
theorem dM_find_207 : decode cM_find 207 = .ok (.ifCond .eq 38, 3) := by decide +kernel
theorem dM_find_210 : decode cM_find 210 = .ok (.aload_n 0, 1) := by decide +kernel
theorem dM_find_211 : decode cM_find 211 = .ok (.getfield 57, 3) := by decide +kernel
theorem dM_find_214 : decode cM_find 214 = .ok (.iconst 1, 1) := by decide +kernel
theorem dM_find_215 : decode cM_find 215 = .ok (.if_icmp .eq 12, 3) := by decide +kernel
theorem dM_find_218 : decode cM_find 218 = .ok (.iload 7, 2) := by decide +kernel
theorem dM_find_220 : decode cM_find 220 = .ok (.iload 5, 2) := by decide +kernel
theorem dM_find_222 : decode cM_find 222 = .ok (.iconst 1, 1) := by decide +kernel
theorem dM_find_223 : decode cM_find 223 = .ok (.iadd, 1) := by decide +kernel
theorem dM_find_224 : decode cM_find 224 = .ok (.if_icmp .ne 21, 3) := by decide +kernel
theorem dM_find_227 : decode cM_find 227 = .ok (.aload_n 0, 1) := by decide +kernel
theorem dM_find_228 : decode cM_find 228 = .ok (.iload 7, 2) := by decide +kernel
theorem dM_find_230 : decode cM_find 230 = .ok (.iload 8, 2) := by decide +kernel
theorem dM_find_232 : decode cM_find 232 = .ok (.iload 5, 2) := by decide +kernel
theorem dM_find_234 : decode cM_find 234 = .ok (.iload_n 3, 1) := by decide +kernel
theorem dM_find_235 : decode cM_find 235 = .ok (.invokevirtual 70, 3) := by decide +kernel
theorem dM_find_238 : decode cM_find 238 = .ok (.ifCond .eq 7, 3) := by decide +kernel
theorem dM_find_241 : decode cM_find 241 = .ok (.iconst 1, 1) := by decide +kernel
theorem dM_find_242 : decode cM_find 242 = .ok (.goto 4, 3) := by decide +kernel
theorem dM_find_245 : decode cM_find 245 = .ok (.iconst 0, 1) := by decide +kernel
theorem dM_find_246 : decode cM_find 246 = .ok (.istore 10, 2) := by decide +kernel
theorem dM_find_248 : decode cM_find 248 = .ok (.iload 10, 2) := by decide +kernel
theorem dM_find_250 : decode cM_find 250 = .ok (.ifCond .eq 16, 3) := by decide +kernel
theorem dM_find_253 : decode cM_find 253 = .ok (.aload_n 0, 1) := by decide +kernel
theorem dM_find_254 : decode cM_find 254 = .ok (.iload_n 3, 1) := by decide +kernel
theorem dM_find_255 : decode cM_find 255 = .ok (.iload 7, 2) := by decide +kernel
theorem dM_find_257 : decode cM_find 257 = .ok (.iload 8, 2) := by decide +kernel
theorem dM_find_259 : decode cM_find 259 = .ok (.iconst 0, 1) := by decide +kernel
theorem dM_find_260 : decode cM_find 260 = .ok (.invokevirtual 74, 3) := by decide +kernel
theorem dM_find_263 : decode cM_find 263 = .ok (.goto 4, 3) := by decide +kernel
theorem dM_find_266 : decode cM_find 266 = .ok (.iconst 0, 1) := by decide +kernel
theorem dM_find_267 : decode cM_find 267 = .ok (.istore 11, 2) := by decide +kernel
theorem dM_find_269 : decode cM_find 269 = .ok (.iload_n 2, 1) := by decide +kernel
theorem dM_find_270 : decode cM_find 270 = .ok (.iload 11, 2) := by decide +kernel
theorem dM_find_272 : decode cM_find 272 = .ok (.if_icmp .ge 7, 3) := by decide +kernel
theorem dM_find_275 : decode cM_find 275 = .ok (.iconst 1, 1) := by decide +kernel
theorem dM_find_276 : decode cM_find 276 = .ok (.goto 4, 3) := by decide +kernel
theorem dM_find_279 : decode cM_find 279 = .ok (.iconst 0, 1) := by decide +kernel
theorem dM_find_280 : decode cM_find 280 = .ok (.istore 9, 2) := by decide +kernel
theorem dM_find_282 : decode cM_find 282 = .ok (.iload 9, 2) := by decide +kernel
theorem dM_find_284 : decode cM_find 284 = .ok (.ifCond .ne 44, 3) := by decide +kernel
theorem dM_find_287 : decode cM_find 287 = .ok (.iload_n 2, 1) := by decide +kernel
theorem dM_find_288 : decode cM_find 288 = .ok (.iload 11, 2) := by decide +kernel
theorem dM_find_290 : decode cM_find 290 = .ok (.isub, 1) := by decide +kernel
theorem dM_find_291 : decode cM_find 291 = .ok (.istore_n 2, 1) := by decide +kernel
theorem dM_find_292 : decode cM_find 292 = .ok (.iload 8, 2) := by decide +kernel
theorem dM_find_294 : decode cM_find 294 = .ok (.iload 6, 2) := by decide +kernel
theorem dM_find_296 : decode cM_find 296 = .ok (.if_icmp .le 10, 3) := by decide +kernel
theorem dM_find_299 : decode cM_find 299 = .ok (.iload 7, 2) := by decide +kernel
theorem dM_find_301 : decode cM_find 301 = .ok (.iconst 1, 1) := by decide +kernel
theorem dM_find_302 : decode cM_find 302 = .ok (.iadd, 1) := by decide +kernel
theorem dM_find_303 : decode cM_find 303 = .ok (.goto 5, 3) := by decide +kernel
theorem dM_find_306 : decode cM_find 306 = .ok (.iload 7, 2) := by decide +kernel
theorem dM_find_308 : decode cM_find 308 = .ok (.istore 7, 2) := by decide +kernel
theorem dM_find_310 : decode cM_find 310 = .ok (.iload 8, 2) := by decide +kernel
theorem dM_find_312 : decode cM_find 312 = .ok (.iload 6, 2) := by decide +kernel
theorem dM_find_314 : decode cM_find 314 = .ok (.if_icmp .le 8, 3) := by decide +kernel
theorem dM_find_317 : decode cM_find 317 = .ok (.iload 6, 2) := by decide +kernel
theorem dM_find_319 : decode cM_find 319 = .ok (.goto 7, 3) := by decide +kernel
theorem dM_find_322 : decode cM_find 322 = .ok (.iload 6, 2) := by decide +kernel
theorem dM_find_324 : decode cM_find 324 = .ok (.iconst 1, 1) := by decide +kernel
theorem dM_find_325 : decode cM_find 325 = .ok (.iadd, 1) := by decide +kernel
theorem dM_find_326 : decode cM_find 326 = .ok (.istore 8, 2) := by decide +kernel
theorem dM_find_328 : decode cM_find 328 = .ok (.goto (-152), 3) := by decide +kernel
theorem dM_find_331 : decode cM_find 331 = .ok (.iload 7, 2) := by decide +kernel
theorem dM_find_333 : decode cM_find 333 = .ok (.istore 5, 2) := by decide +kernel
theorem dM_find_335 : decode cM_find 335 = .ok (.iload 8, 2) := by decide +kernel
theorem dM_find_337 : decode cM_find 337 = .ok (.istore 6, 2) := by decide +kernel
theorem dM_find_339 : decode cM_find 339 = .ok (.aload_n 0, 1) := by decide +kernel
theorem dM_find_340 : decode cM_find 340 = .ok (.iload 5, 2) := by decide +kernel
theorem dM_find_342 : decode cM_find 342 = .ok (.iload 6, 2) := by decide +kernel
theorem dM_find_344 : decode cM_find 344 = .ok (.invokevirtual 85, 3) := by decide +kernel
theorem dM_find_347 : decode cM_find 347 = .ok (.goto (-218), 3) := by decide +kernel
theorem dM_find_350 : decode cM_find 350 = .ok (.iconst 1, 1) := by decide +kernel
theorem dM_find_351 : decode cM_find 351 = .ok (.ireturn, 1) := by decide +kernel
theorem dM_length_0 : decode cM_length 0 = .ok (.aload_n 0, 1) := by decide +kernel
theorem dM_length_1 : decode cM_length 1 = .ok (.getfield 63, 3) := by decide +kernel
theorem dM_length_4 : decode cM_length 4 = .ok (.ifCond .le 7, 3) := by decide +kernel
theorem dM_length_7 : decode cM_length 7 = .ok (.iconst 1, 1) := by decide +kernel
theorem dM_length_8 : decode cM_length 8 = .ok (.goto 4, 3) := by decide +kernel
theorem dM_length_11 : decode cM_length 11 = .ok (.iconst 0, 1) := by decide +kernel
theorem dM_length_12 : decode cM_length 12 = .ok (.istore_n 2, 1) := by decide +kernel
theorem dM_length_13 : decode cM_length 13 = .ok (.iload_n 2, 1) := by decide +kernel
theorem dM_length_14 : decode cM_length 14 = .ok (.ifCond .eq 15, 3) := by decide +kernel
theorem dM_length_17 : decode cM_length 17 = .ok (.aload_n 0, 1) := by decide +kernel
theorem dM_length_18 : decode cM_length 18 = .ok (.iload_n 1, 1) := by decide +kernel
theorem dM_length_19 : decode cM_length 19 = .ok (.invokevirtual 89, 3) := by decide +kernel
theorem dM_length_22 : decode cM_length 22 = .ok (.ifCond .eq 7, 3) := by decide +kernel
theorem dM_length_25 : decode cM_length 25 = .ok (.iconst 1, 1) := by decide +kernel
theorem dM_length_26 : decode cM_length 26 = .ok (.goto 4, 3) := by decide +kernel
theorem dM_length_29 : decode cM_length 29 = .ok (.iconst 0, 1) := by decide +kernel
theorem dM_length_30 : decode cM_length 30 = .ok (.istore_n 3, 1) := by decide +kernel
theorem dM_length_31 : decode cM_length 31 = .ok (.aload_n 0, 1) := by decide +kernel
theorem dM_length_32 : decode cM_length 32 = .ok (.iload_n 2, 1) := by decide +kernel
theorem dM_length_33 : decode cM_length 33 = .ok (.ifCond .ne 7, 3) := by decide +kernel
theorem dM_length_36 : decode cM_length 36 = .ok (.iconst 1, 1) := by decide +kernel
theorem dM_length_37 : decode cM_length 37 = .ok (.goto 4, 3) := by decide +kernel
theorem dM_length_40 : decode cM_length 40 = .ok (.iconst 0, 1) := by decide +kernel
theorem dM_length_41 : decode cM_length 41 = .ok (.iload_n 2, 1) := by decide +kernel
theorem dM_length_42 : decode cM_length 42 = .ok (.ifCond .eq 11, 3) := by decide +kernel
theorem dM_length_45 : decode cM_length 45 = .ok (.iload_n 3, 1) := by decide +kernel
theorem dM_length_46 : decode cM_length 46 = .ok (.ifCond .ne 7, 3) := by decide +kernel
theorem dM_length_49 : decode cM_length 49 = .ok (.iconst 1, 1) := by decide +kernel
theorem dM_length_50 : decode cM_length 50 = .ok (.goto 4, 3) := by decide +kernel
theorem dM_length_53 : decode cM_length 53 = .ok (.iconst 0, 1) := by decide +kernel
theorem dM_length_54 : decode cM_length 54 = .ok (.iconst 0, 1) := by decide +kernel
theorem dM_length_55 : decode cM_length 55 = .ok (.invokevirtual 53, 3) := by decide +kernel
theorem dM_length_58 : decode cM_length 58 = .ok (.ifCond .eq 7, 3) := by decide +kernel
theorem dM_length_61 : decode cM_length 61 = .ok (.iconst 0, 1) := by decide +kernel
theorem dM_length_62 : decode cM_length 62 = .ok (.goto 7, 3) := by decide +kernel
theorem dM_length_65 : decode cM_length 65 = .ok (.aload_n 0, 1) := by decide +kernel
theorem dM_length_66 : decode cM_length 66 = .ok (.getfield 82, 3) := by decide +kernel
theorem dM_length_69 : decode cM_length 69 = .ok (.ireturn, 1) := by decide +kernel
theorem dM_match_0 : decode cM_match 0 = .ok (.aload_n 0, 1) := by decide +kernel
theorem dM_match_1 : decode cM_match 1 = .ok (.getfield 63, 3) := by decide +kernel
theorem dM_match_4 : decode cM_match 4 = .ok (.ifCond .le 7, 3) := by decide +kernel
theorem dM_match_7 : decode cM_match 7 = .ok (.iconst 1, 1) := by decide +kernel
theorem dM_match_8 : decode cM_match 8 = .ok (.goto 4, 3) := by decide +kernel
theorem dM_match_11 : decode cM_match 11 = .ok (.iconst 0, 1) := by decide +kernel
theorem dM_match_12 : decode cM_match 12 = .ok (.istore 4, 2) := by decide +kernel
theorem dM_match_14 : decode cM_match 14 = .ok (.iload 4, 2) := by decide +kernel
theorem dM_match_16 : decode cM_match 16 = .ok (.ifCond .eq 29, 3) := by decide +kernel
theorem dM_match_19 : decode cM_match 19 = .ok (.aload_n 0, 1) := by decide +kernel
theorem dM_match_20 : decode cM_match 20 = .ok (.iload_n 1, 1) := by decide +kernel
theorem dM_match_21 : decode cM_match 21 = .ok (.invokevirtual 89, 3) := by decide +kernel
theorem dM_match_24 : decode cM_match 24 = .ok (.ifCond .eq 21, 3) := by decide +kernel
theorem dM_match_27 : decode cM_match 27 = .ok (.iload_n 2, 1) := by decide +kernel
theorem dM_match_28 : decode cM_match 28 = .ok (.iconst 0, 1) := by decide +kernel
theorem dM_match_29 : decode cM_match 29 = .ok (.aload_n 0, 1) := by decide +kernel
theorem dM_match_30 : decode cM_match 30 = .ok (.getfield 82, 3) := by decide +kernel
theorem dM_match_33 : decode cM_match 33 = .ok (.iconst 1, 1) := by decide +kernel
theorem dM_match_34 : decode cM_match 34 = .ok (.isub, 1) := by decide +kernel
theorem dM_match_35 : decode cM_match 35 = .ok (.invokestatic 49, 3) := by decide +kernel
theorem dM_match_38 : decode cM_match 38 = .ok (.ifCond .eq 7, 3) := by decide +kernel
theorem dM_match_41 : decode cM_match 41 = .ok (.iconst 1, 1) := by decide +kernel
theorem dM_match_42 : decode cM_match 42 = .ok (.goto 4, 3) := by decide +kernel
theorem dM_match_45 : decode cM_match 45 = .ok (.iconst 0, 1) := by decide +kernel
theorem dM_match_46 : decode cM_match 46 = .ok (.istore 5, 2) := by decide +kernel
theorem dM_match_48 : decode cM_match 48 = .ok (.aload_n 0, 1) := by decide +kernel
theorem dM_match_49 : decode cM_match 49 = .ok (.iload 4, 2) := by decide +kernel
theorem dM_match_51 : decode cM_match 51 = .ok (.ifCond .ne 7, 3) := by decide +kernel
theorem dM_match_54 : decode cM_match 54 = .ok (.iconst 1, 1) := by decide +kernel
theorem dM_match_55 : decode cM_match 55 = .ok (.goto 4, 3) := by decide +kernel
theorem dM_match_58 : decode cM_match 58 = .ok (.iconst 0, 1) := by decide +kernel
theorem dM_match_59 : decode cM_match 59 = .ok (.iload 4, 2) := by decide +kernel
theorem dM_match_61 : decode cM_match 61 = .ok (.ifCond .eq 12, 3) := by decide +kernel
theorem dM_match_64 : decode cM_match 64 = .ok (.iload 5, 2) := by decide +kernel
theorem dM_match_66 : decode cM_match 66 = .ok (.ifCond .ne 7, 3) := by decide +kernel
theorem dM_match_69 : decode cM_match 69 = .ok (.iconst 1, 1) := by decide +kernel
theorem dM_match_70 : decode cM_match 70 = .ok (.goto 4, 3) := by decide +kernel
theorem dM_match_73 : decode cM_match 73 = .ok (.iconst 0, 1) := by decide +kernel
theorem dM_match_74 : decode cM_match 74 = .ok (.iload 5, 2) := by decide +kernel
theorem dM_match_76 : decode cM_match 76 = .ok (.ifCond .eq 16, 3) := by decide +kernel
theorem dM_match_79 : decode cM_match 79 = .ok (.iload_n 3, 1) := by decide +kernel
theorem dM_match_80 : decode cM_match 80 = .ok (.iconst 0, 1) := by decide +kernel
theorem dM_match_81 : decode cM_match 81 = .ok (.iconst 1, 1) := by decide +kernel
theorem dM_match_82 : decode cM_match 82 = .ok (.invokestatic 49, 3) := by decide +kernel
theorem dM_match_85 : decode cM_match 85 = .ok (.ifCond .ne 7, 3) := by decide +kernel
theorem dM_match_88 : decode cM_match 88 = .ok (.iconst 1, 1) := by decide +kernel
theorem dM_match_89 : decode cM_match 89 = .ok (.goto 4, 3) := by decide +kernel
theorem dM_match_92 : decode cM_match 92 = .ok (.iconst 0, 1) := by decide +kernel
theorem dM_match_93 : decode cM_match 93 = .ok (.invokevirtual 53, 3) := by decide +kernel
theorem dM_match_96 : decode cM_match 96 = .ok (.ifCond .eq 5, 3) := by decide +kernel
theorem dM_match_99 : decode cM_match 99 = .ok (.iconst 0, 1) := by decide +kernel
theorem dM_match_100 : decode cM_match 100 = .ok (.ireturn, 1) := by decide +kernel
theorem dM_match_101 : decode cM_match 101 = .ok (.iload_n 3, 1) := by decide +kernel
theorem dM_match_102 : decode cM_match 102 = .ok (.ifCond .ne 12, 3) := by decide +kernel
theorem dM_match_105 : decode cM_match 105 = .ok (.aload_n 0, 1) := by decide +kernel
theorem dM_match_106 : decode cM_match 106 = .ok (.getfield 35, 3) := by decide +kernel
theorem dM_match_109 : decode cM_match 109 = .ok (.iload_n 2, 1) := by decide +kernel
theorem dM_match_110 : decode cM_match 110 = .ok (.iaload, 1) := by decide +kernel
theorem dM_match_111 : decode cM_match 111 = .ok (.goto 9, 3) := by decide +kernel
theorem dM_match_114 : decode cM_match 114 = .ok (.aload_n 0, 1) := by decide +kernel
theorem dM_match_115 : decode cM_match 115 = .ok (.getfield 38, 3) := by decide +kernel
theorem dM_match_118 : decode cM_match 118 = .ok (.iload_n 2, 1) := by decide +kernel
theorem dM_match_119 : decode cM_match 119 = .ok (.iaload, 1) := by decide +kernel
theorem dM_match_120 : decode cM_match 120 = .ok (.ireturn, 1) := by decide +kernel
theorem dM_events_0 : decode cM_events 0 = .ok (.aload_n 0, 1) := by decide +kernel
theorem dM_events_1 : decode cM_events 1 = .ok (.iconst 0, 1) := by decide +kernel
theorem dM_events_2 : decode cM_events 2 = .ok (.putfield 41, 3) := by decide +kernel
theorem dM_events_5 : decode cM_events 5 = .ok (.aload_n 0, 1) := by decide +kernel
theorem dM_events_6 : decode cM_events 6 = .ok (.getfield 45, 3) := by decide +kernel
theorem dM_events_9 : decode cM_events 9 = .ok (.ireturn, 1) := by decide +kernel
end
section
theorem dL_event_0 : decode cL_event 0 = .ok (.aload 4, 2) := by decide +kernel
theorem dL_event_2 : decode cL_event 2 = .ok (.iconst 0, 1) := by decide +kernel
theorem dL_event_3 : decode cL_event 3 = .ok (.aload_n 0, 1) := by decide +kernel
theorem dL_event_4 : decode cL_event 4 = .ok (.iload_n 1, 1) := by decide +kernel
theorem dL_event_5 : decode cL_event 5 = .ok (.iload_n 2, 1) := by decide +kernel
theorem dL_event_6 : decode cL_event 6 = .ok (.iload_n 3, 1) := by decide +kernel
theorem dL_event_7 : decode cL_event 7 = .ok (.invokevirtual 7, 3) := by decide +kernel
theorem dL_event_10 : decode cL_event 10 = .ok (.i2l, 1) := by decide +kernel
theorem dL_event_11 : decode cL_event 11 = .ok (.lastore, 1) := by decide +kernel
theorem dL_event_12 : decode cL_event 12 = .ok (.goto 11, 3) := by decide +kernel
theorem dL_event_15 : decode cL_event 15 = .ok (.astore 5, 2) := by decide +kernel
theorem dL_event_17 : decode cL_event 17 = .ok (.iconst 1, 1) := by decide +kernel
theorem dL_event_18 : decode cL_event 18 = .ok (.ireturn, 1) := by decide +kernel
theorem dL_event_19 : decode cL_event 19 = .ok (.astore 5, 2) := by decide +kernel
theorem dL_event_21 : decode cL_event 21 = .ok (.iconst 2, 1) := by decide +kernel
theorem dL_event_22 : decode cL_event 22 = .ok (.ireturn, 1) := by decide +kernel
theorem dL_event_23 : decode cL_event 23 = .ok (.iconst 0, 1) := by decide +kernel
theorem dL_event_24 : decode cL_event 24 = .ok (.ireturn, 1) := by decide +kernel
theorem dL_pattern_0 : decode cL_pattern 0 = .ok (.aload_n 0, 1) := by decide +kernel
theorem dL_pattern_1 : decode cL_pattern 1 = .ok (.iload_n 1, 1) := by decide +kernel
theorem dL_pattern_2 : decode cL_pattern 2 = .ok (.iload_n 2, 1) := by decide +kernel
theorem dL_pattern_3 : decode cL_pattern 3 = .ok (.invokevirtual 17, 3) := by decide +kernel
theorem dL_pattern_6 : decode cL_pattern 6 = .ok (.goto 6, 3) := by decide +kernel
theorem dL_pattern_9 : decode cL_pattern 9 = .ok (.astore_n 3, 1) := by decide +kernel
theorem dL_pattern_10 : decode cL_pattern 10 = .ok (.iconst 1, 1) := by decide +kernel
theorem dL_pattern_11 : decode cL_pattern 11 = .ok (.ireturn, 1) := by decide +kernel
theorem dL_pattern_12 : decode cL_pattern 12 = .ok (.iconst 0, 1) := by decide +kernel
theorem dL_pattern_13 : decode cL_pattern 13 = .ok (.ireturn, 1) := by decide +kernel
theorem dL_step_0 : decode cL_step 0 = .ok (.aload 5, 2) := by decide +kernel
theorem dL_step_2 : decode cL_step 2 = .ok (.iconst 0, 1) := by decide +kernel
theorem dL_step_3 : decode cL_step 3 = .ok (.aload_n 0, 1) := by decide +kernel
theorem dL_step_4 : decode cL_step 4 = .ok (.iload_n 1, 1) := by decide +kernel
theorem dL_step_5 : decode cL_step 5 = .ok (.iload_n 2, 1) := by decide +kernel
theorem dL_step_6 : decode cL_step 6 = .ok (.iload_n 3, 1) := by decide +kernel
theorem dL_step_7 : decode cL_step 7 = .ok (.iload 4, 2) := by decide +kernel
theorem dL_step_9 : decode cL_step 9 = .ok (.invokevirtual 21, 3) := by decide +kernel
theorem dL_step_12 : decode cL_step 12 = .ok (.i2l, 1) := by decide +kernel
theorem dL_step_13 : decode cL_step 13 = .ok (.lastore, 1) := by decide +kernel
theorem dL_step_14 : decode cL_step 14 = .ok (.goto 11, 3) := by decide +kernel
theorem dL_step_17 : decode cL_step 17 = .ok (.astore 6, 2) := by decide +kernel
theorem dL_step_19 : decode cL_step 19 = .ok (.iconst 1, 1) := by decide +kernel
theorem dL_step_20 : decode cL_step 20 = .ok (.ireturn, 1) := by decide +kernel
theorem dL_step_21 : decode cL_step 21 = .ok (.astore 6, 2) := by decide +kernel
theorem dL_step_23 : decode cL_step 23 = .ok (.iconst 2, 1) := by decide +kernel
theorem dL_step_24 : decode cL_step 24 = .ok (.ireturn, 1) := by decide +kernel
theorem dL_step_25 : decode cL_step 25 = .ok (.iconst 0, 1) := by decide +kernel
theorem dL_step_26 : decode cL_step 26 = .ok (.ireturn, 1) := by decide +kernel
theorem dL_count_0 : decode cL_count 0 = .ok (.aload_n 1, 1) := by decide +kernel
theorem dL_count_1 : decode cL_count 1 = .ok (.iconst 0, 1) := by decide +kernel
theorem dL_count_2 : decode cL_count 2 = .ok (.aload_n 0, 1) := by decide +kernel
theorem dL_count_3 : decode cL_count 3 = .ok (.invokevirtual 25, 3) := by decide +kernel
theorem dL_count_6 : decode cL_count 6 = .ok (.i2l, 1) := by decide +kernel
theorem dL_count_7 : decode cL_count 7 = .ok (.lastore, 1) := by decide +kernel
theorem dL_count_8 : decode cL_count 8 = .ok (.goto 6, 3) := by decide +kernel
theorem dL_count_11 : decode cL_count 11 = .ok (.astore_n 2, 1) := by decide +kernel
theorem dL_count_12 : decode cL_count 12 = .ok (.iconst 1, 1) := by decide +kernel
theorem dL_count_13 : decode cL_count 13 = .ok (.ireturn, 1) := by decide +kernel
theorem dL_count_14 : decode cL_count 14 = .ok (.iconst 0, 1) := by decide +kernel
theorem dL_count_15 : decode cL_count 15 = .ok (.ireturn, 1) := by decide +kernel
theorem dL_latest_0 : decode cL_latest 0 = .ok (.aload_n 1, 1) := by decide +kernel
theorem dL_latest_1 : decode cL_latest 1 = .ok (.iconst 0, 1) := by decide +kernel
theorem dL_latest_2 : decode cL_latest 2 = .ok (.aload_n 0, 1) := by decide +kernel
theorem dL_latest_3 : decode cL_latest 3 = .ok (.invokevirtual 31, 3) := by decide +kernel
theorem dL_latest_6 : decode cL_latest 6 = .ok (.i2l, 1) := by decide +kernel
theorem dL_latest_7 : decode cL_latest 7 = .ok (.lastore, 1) := by decide +kernel
theorem dL_latest_8 : decode cL_latest 8 = .ok (.goto 6, 3) := by decide +kernel
theorem dL_latest_11 : decode cL_latest 11 = .ok (.astore_n 2, 1) := by decide +kernel
theorem dL_latest_12 : decode cL_latest 12 = .ok (.iconst 1, 1) := by decide +kernel
theorem dL_latest_13 : decode cL_latest 13 = .ok (.ireturn, 1) := by decide +kernel
theorem dL_latest_14 : decode cL_latest 14 = .ok (.iconst 0, 1) := by decide +kernel
theorem dL_latest_15 : decode cL_latest 15 = .ok (.ireturn, 1) := by decide +kernel
theorem dL_length_0 : decode cL_length 0 = .ok (.aload_n 2, 1) := by decide +kernel
theorem dL_length_1 : decode cL_length 1 = .ok (.iconst 0, 1) := by decide +kernel
theorem dL_length_2 : decode cL_length 2 = .ok (.aload_n 0, 1) := by decide +kernel
theorem dL_length_3 : decode cL_length 3 = .ok (.iload_n 1, 1) := by decide +kernel
theorem dL_length_4 : decode cL_length 4 = .ok (.invokevirtual 34, 3) := by decide +kernel
theorem dL_length_7 : decode cL_length 7 = .ok (.i2l, 1) := by decide +kernel
theorem dL_length_8 : decode cL_length 8 = .ok (.lastore, 1) := by decide +kernel
theorem dL_length_9 : decode cL_length 9 = .ok (.goto 9, 3) := by decide +kernel
theorem dL_length_12 : decode cL_length 12 = .ok (.astore_n 3, 1) := by decide +kernel
theorem dL_length_13 : decode cL_length 13 = .ok (.iconst 1, 1) := by decide +kernel
theorem dL_length_14 : decode cL_length 14 = .ok (.ireturn, 1) := by decide +kernel
theorem dL_length_15 : decode cL_length 15 = .ok (.astore_n 3, 1) := by decide +kernel
theorem dL_length_16 : decode cL_length 16 = .ok (.iconst 2, 1) := by decide +kernel
theorem dL_length_17 : decode cL_length 17 = .ok (.ireturn, 1) := by decide +kernel
theorem dL_length_18 : decode cL_length 18 = .ok (.iconst 0, 1) := by decide +kernel
theorem dL_length_19 : decode cL_length 19 = .ok (.ireturn, 1) := by decide +kernel
theorem dL_match_0 : decode cL_match 0 = .ok (.aload 4, 2) := by decide +kernel
theorem dL_match_2 : decode cL_match 2 = .ok (.iconst 0, 1) := by decide +kernel
theorem dL_match_3 : decode cL_match 3 = .ok (.aload_n 0, 1) := by decide +kernel
theorem dL_match_4 : decode cL_match 4 = .ok (.iload_n 1, 1) := by decide +kernel
theorem dL_match_5 : decode cL_match 5 = .ok (.iload_n 2, 1) := by decide +kernel
theorem dL_match_6 : decode cL_match 6 = .ok (.iload_n 3, 1) := by decide +kernel
theorem dL_match_7 : decode cL_match 7 = .ok (.invokevirtual 40, 3) := by decide +kernel
theorem dL_match_10 : decode cL_match 10 = .ok (.i2l, 1) := by decide +kernel
theorem dL_match_11 : decode cL_match 11 = .ok (.lastore, 1) := by decide +kernel
theorem dL_match_12 : decode cL_match 12 = .ok (.goto 15, 3) := by decide +kernel
theorem dL_match_15 : decode cL_match 15 = .ok (.astore 5, 2) := by decide +kernel
theorem dL_match_17 : decode cL_match 17 = .ok (.iconst 1, 1) := by decide +kernel
theorem dL_match_18 : decode cL_match 18 = .ok (.ireturn, 1) := by decide +kernel
theorem dL_match_19 : decode cL_match 19 = .ok (.astore 5, 2) := by decide +kernel
theorem dL_match_21 : decode cL_match 21 = .ok (.iconst 2, 1) := by decide +kernel
theorem dL_match_22 : decode cL_match 22 = .ok (.ireturn, 1) := by decide +kernel
theorem dL_match_23 : decode cL_match 23 = .ok (.astore 5, 2) := by decide +kernel
theorem dL_match_25 : decode cL_match 25 = .ok (.iconst 3, 1) := by decide +kernel
theorem dL_match_26 : decode cL_match 26 = .ok (.ireturn, 1) := by decide +kernel
theorem dL_match_27 : decode cL_match 27 = .ok (.iconst 0, 1) := by decide +kernel
theorem dL_match_28 : decode cL_match 28 = .ok (.ireturn, 1) := by decide +kernel
theorem dL_law_0 : decode cL_law 0 = .ok (.new 8, 3) := by decide +kernel
theorem dL_law_3 : decode cL_law 3 = .ok (.dup, 1) := by decide +kernel
theorem dL_law_4 : decode cL_law 4 = .ok (.invokespecial 43, 3) := by decide +kernel
theorem dL_law_7 : decode cL_law 7 = .ok (.astore_n 1, 1) := by decide +kernel
theorem dL_law_8 : decode cL_law 8 = .ok (.new 44, 3) := by decide +kernel
theorem dL_law_11 : decode cL_law 11 = .ok (.dup, 1) := by decide +kernel
theorem dL_law_12 : decode cL_law 12 = .ok (.invokespecial 46, 3) := by decide +kernel
theorem dL_law_15 : decode cL_law 15 = .ok (.astore_n 2, 1) := by decide +kernel
theorem dL_law_16 : decode cL_law 16 = .ok (.iconst 1, 1) := by decide +kernel
theorem dL_law_17 : decode cL_law 17 = .ok (.newarray .long, 2) := by decide +kernel
theorem dL_law_19 : decode cL_law 19 = .ok (.astore_n 3, 1) := by decide +kernel
theorem dL_law_20 : decode cL_law 20 = .ok (.iconst 0, 1) := by decide +kernel
theorem dL_law_21 : decode cL_law 21 = .ok (.istore 4, 2) := by decide +kernel
theorem dL_law_23 : decode cL_law 23 = .ok (.iload 4, 2) := by decide +kernel
theorem dL_law_25 : decode cL_law 25 = .ok (.aload_n 0, 1) := by decide +kernel
theorem dL_law_26 : decode cL_law 26 = .ok (.arraylength, 1) := by decide +kernel
theorem dL_law_27 : decode cL_law 27 = .ok (.iconst 5, 1) := by decide +kernel
theorem dL_law_28 : decode cL_law 28 = .ok (.isub, 1) := by decide +kernel
theorem dL_law_29 : decode cL_law 29 = .ok (.if_icmp .gt 549, 3) := by decide +kernel
theorem dL_law_32 : decode cL_law 32 = .ok (.aload_n 0, 1) := by decide +kernel
theorem dL_law_33 : decode cL_law 33 = .ok (.iload 4, 2) := by decide +kernel
theorem dL_law_35 : decode cL_law 35 = .ok (.iaload, 1) := by decide +kernel
theorem dL_law_36 : decode cL_law 36 = .ok (.bipush 15, 2) := by decide +kernel
theorem dL_law_38 : decode cL_law 38 = .ok (.iand, 1) := by decide +kernel
theorem dL_law_39 : decode cL_law 39 = .ok (.tableswitch 533 0 8 #[49, 129, 140, 188, 296, 340, 384, 440, 520], 49) := by decide +kernel
theorem dL_law_88 : decode cL_law 88 = .ok (.aload_n 1, 1) := by decide +kernel
theorem dL_law_89 : decode cL_law 89 = .ok (.aload_n 0, 1) := by decide +kernel
theorem dL_law_90 : decode cL_law 90 = .ok (.iload 4, 2) := by decide +kernel
theorem dL_law_92 : decode cL_law 92 = .ok (.iconst 1, 1) := by decide +kernel
theorem dL_law_93 : decode cL_law 93 = .ok (.iadd, 1) := by decide +kernel
theorem dL_law_94 : decode cL_law 94 = .ok (.iaload, 1) := by decide +kernel
theorem dL_law_95 : decode cL_law 95 = .ok (.aload_n 0, 1) := by decide +kernel
theorem dL_law_96 : decode cL_law 96 = .ok (.iload 4, 2) := by decide +kernel
theorem dL_law_98 : decode cL_law 98 = .ok (.iconst 2, 1) := by decide +kernel
theorem dL_law_99 : decode cL_law 99 = .ok (.iadd, 1) := by decide +kernel
theorem dL_law_100 : decode cL_law 100 = .ok (.iaload, 1) := by decide +kernel
theorem dL_law_101 : decode cL_law 101 = .ok (.aload_n 0, 1) := by decide +kernel
theorem dL_law_102 : decode cL_law 102 = .ok (.iload 4, 2) := by decide +kernel
theorem dL_law_104 : decode cL_law 104 = .ok (.iconst 3, 1) := by decide +kernel
theorem dL_law_105 : decode cL_law 105 = .ok (.iadd, 1) := by decide +kernel
theorem dL_law_106 : decode cL_law 106 = .ok (.iaload, 1) := by decide +kernel
theorem dL_law_107 : decode cL_law 107 = .ok (.aload_n 3, 1) := by decide +kernel
theorem dL_law_108 : decode cL_law 108 = .ok (.invokestatic 47, 3) := by decide +kernel
theorem dL_law_111 : decode cL_law 111 = .ok (.istore 5, 2) := by decide +kernel
theorem dL_law_113 : decode cL_law 113 = .ok (.aload_n 2, 1) := by decide +kernel
theorem dL_law_114 : decode cL_law 114 = .ok (.aload_n 0, 1) := by decide +kernel
theorem dL_law_115 : decode cL_law 115 = .ok (.iload 4, 2) := by decide +kernel
theorem dL_law_117 : decode cL_law 117 = .ok (.iconst 1, 1) := by decide +kernel
theorem dL_law_118 : decode cL_law 118 = .ok (.iadd, 1) := by decide +kernel
theorem dL_law_119 : decode cL_law 119 = .ok (.iaload, 1) := by decide +kernel
theorem dL_law_120 : decode cL_law 120 = .ok (.aload_n 0, 1) := by decide +kernel
theorem dL_law_121 : decode cL_law 121 = .ok (.iload 4, 2) := by decide +kernel
theorem dL_law_123 : decode cL_law 123 = .ok (.iconst 2, 1) := by decide +kernel
theorem dL_law_124 : decode cL_law 124 = .ok (.iadd, 1) := by decide +kernel
theorem dL_law_125 : decode cL_law 125 = .ok (.iaload, 1) := by decide +kernel
theorem dL_law_126 : decode cL_law 126 = .ok (.aload_n 0, 1) := by decide +kernel
theorem dL_law_127 : decode cL_law 127 = .ok (.iload 4, 2) := by decide +kernel
theorem dL_law_129 : decode cL_law 129 = .ok (.iconst 3, 1) := by decide +kernel
theorem dL_law_130 : decode cL_law 130 = .ok (.iadd, 1) := by decide +kernel
theorem dL_law_131 : decode cL_law 131 = .ok (.iaload, 1) := by decide +kernel
theorem dL_law_132 : decode cL_law 132 = .ok (.invokevirtual 52, 3) := by decide +kernel
theorem dL_law_135 : decode cL_law 135 = .ok (.istore 6, 2) := by decide +kernel
theorem dL_law_137 : decode cL_law 137 = .ok (.aload_n 2, 1) := by decide +kernel
theorem dL_law_138 : decode cL_law 138 = .ok (.invokevirtual 53, 3) := by decide +kernel
theorem dL_law_141 : decode cL_law 141 = .ok (.iload 5, 2) := by decide +kernel
theorem dL_law_143 : decode cL_law 143 = .ok (.if_icmp .eq 5, 3) := by decide +kernel
theorem dL_law_146 : decode cL_law 146 = .ok (.iconst 0, 1) := by decide +kernel
theorem dL_law_147 : decode cL_law 147 = .ok (.ireturn, 1) := by decide +kernel
theorem dL_law_148 : decode cL_law 148 = .ok (.iload 5, 2) := by decide +kernel
theorem dL_law_150 : decode cL_law 150 = .ok (.ifCond .ne 15, 3) := by decide +kernel
theorem dL_law_153 : decode cL_law 153 = .ok (.aload_n 3, 1) := by decide +kernel
theorem dL_law_154 : decode cL_law 154 = .ok (.iconst 0, 1) := by decide +kernel
theorem dL_law_155 : decode cL_law 155 = .ok (.laload, 1) := by decide +kernel
theorem dL_law_156 : decode cL_law 156 = .ok (.iload 6, 2) := by decide +kernel
theorem dL_law_158 : decode cL_law 158 = .ok (.i2l, 1) := by decide +kernel
theorem dL_law_159 : decode cL_law 159 = .ok (.lcmp, 1) := by decide +kernel
theorem dL_law_160 : decode cL_law 160 = .ok (.ifCond .eq 5, 3) := by decide +kernel
theorem dL_law_163 : decode cL_law 163 = .ok (.iconst 0, 1) := by decide +kernel
theorem dL_law_164 : decode cL_law 164 = .ok (.ireturn, 1) := by decide +kernel
theorem dL_law_165 : decode cL_law 165 = .ok (.goto 407, 3) := by decide +kernel
theorem dL_law_168 : decode cL_law 168 = .ok (.aload_n 1, 1) := by decide +kernel
theorem dL_law_169 : decode cL_law 169 = .ok (.invokevirtual 56, 3) := by decide +kernel
theorem dL_law_172 : decode cL_law 172 = .ok (.aload_n 2, 1) := by decide +kernel
theorem dL_law_173 : decode cL_law 173 = .ok (.invokevirtual 59, 3) := by decide +kernel
theorem dL_law_176 : decode cL_law 176 = .ok (.goto 396, 3) := by decide +kernel
theorem dL_law_179 : decode cL_law 179 = .ok (.aload_n 1, 1) := by decide +kernel
theorem dL_law_180 : decode cL_law 180 = .ok (.aload_n 0, 1) := by decide +kernel
theorem dL_law_181 : decode cL_law 181 = .ok (.iload 4, 2) := by decide +kernel
theorem dL_law_183 : decode cL_law 183 = .ok (.iconst 1, 1) := by decide +kernel
theorem dL_law_184 : decode cL_law 184 = .ok (.iadd, 1) := by decide +kernel
theorem dL_law_185 : decode cL_law 185 = .ok (.iaload, 1) := by decide +kernel
theorem dL_law_186 : decode cL_law 186 = .ok (.aload_n 0, 1) := by decide +kernel
theorem dL_law_187 : decode cL_law 187 = .ok (.iload 4, 2) := by decide +kernel
theorem dL_law_189 : decode cL_law 189 = .ok (.iconst 2, 1) := by decide +kernel
theorem dL_law_190 : decode cL_law 190 = .ok (.iadd, 1) := by decide +kernel
theorem dL_law_191 : decode cL_law 191 = .ok (.iaload, 1) := by decide +kernel
theorem dL_law_192 : decode cL_law 192 = .ok (.invokestatic 60, 3) := by decide +kernel
theorem dL_law_195 : decode cL_law 195 = .ok (.istore 5, 2) := by decide +kernel
theorem dL_law_197 : decode cL_law 197 = .ok (.aload_n 2, 1) := by decide +kernel
theorem dL_law_198 : decode cL_law 198 = .ok (.aload_n 0, 1) := by decide +kernel
theorem dL_law_199 : decode cL_law 199 = .ok (.iload 4, 2) := by decide +kernel
theorem dL_law_201 : decode cL_law 201 = .ok (.iconst 1, 1) := by decide +kernel
theorem dL_law_202 : decode cL_law 202 = .ok (.iadd, 1) := by decide +kernel
theorem dL_law_203 : decode cL_law 203 = .ok (.iaload, 1) := by decide +kernel
theorem dL_law_204 : decode cL_law 204 = .ok (.aload_n 0, 1) := by decide +kernel
theorem dL_law_205 : decode cL_law 205 = .ok (.iload 4, 2) := by decide +kernel
theorem dL_law_207 : decode cL_law 207 = .ok (.iconst 2, 1) := by decide +kernel
theorem dL_law_208 : decode cL_law 208 = .ok (.iadd, 1) := by decide +kernel
theorem dL_law_209 : decode cL_law 209 = .ok (.iaload, 1) := by decide +kernel
theorem dL_law_210 : decode cL_law 210 = .ok (.invokevirtual 63, 3) := by decide +kernel
theorem dL_law_213 : decode cL_law 213 = .ok (.aload_n 2, 1) := by decide +kernel
theorem dL_law_214 : decode cL_law 214 = .ok (.invokevirtual 53, 3) := by decide +kernel
theorem dL_law_217 : decode cL_law 217 = .ok (.iload 5, 2) := by decide +kernel
theorem dL_law_219 : decode cL_law 219 = .ok (.if_icmp .eq 5, 3) := by decide +kernel
theorem dL_law_222 : decode cL_law 222 = .ok (.iconst 0, 1) := by decide +kernel
theorem dL_law_223 : decode cL_law 223 = .ok (.ireturn, 1) := by decide +kernel
theorem dL_law_224 : decode cL_law 224 = .ok (.goto 348, 3) := by decide +kernel
theorem dL_law_227 : decode cL_law 227 = .ok (.aload_n 1, 1) := by decide +kernel
theorem dL_law_228 : decode cL_law 228 = .ok (.aload_n 0, 1) := by decide +kernel
theorem dL_law_229 : decode cL_law 229 = .ok (.iload 4, 2) := by decide +kernel
theorem dL_law_231 : decode cL_law 231 = .ok (.iconst 1, 1) := by decide +kernel
theorem dL_law_232 : decode cL_law 232 = .ok (.iadd, 1) := by decide +kernel
theorem dL_law_233 : decode cL_law 233 = .ok (.iaload, 1) := by decide +kernel
theorem dL_law_234 : decode cL_law 234 = .ok (.aload_n 0, 1) := by decide +kernel
theorem dL_law_235 : decode cL_law 235 = .ok (.iload 4, 2) := by decide +kernel
theorem dL_law_237 : decode cL_law 237 = .ok (.iconst 2, 1) := by decide +kernel
theorem dL_law_238 : decode cL_law 238 = .ok (.iadd, 1) := by decide +kernel
theorem dL_law_239 : decode cL_law 239 = .ok (.iaload, 1) := by decide +kernel
theorem dL_law_240 : decode cL_law 240 = .ok (.aload_n 0, 1) := by decide +kernel
theorem dL_law_241 : decode cL_law 241 = .ok (.iload 4, 2) := by decide +kernel
theorem dL_law_243 : decode cL_law 243 = .ok (.iconst 3, 1) := by decide +kernel
theorem dL_law_244 : decode cL_law 244 = .ok (.iadd, 1) := by decide +kernel
theorem dL_law_245 : decode cL_law 245 = .ok (.iaload, 1) := by decide +kernel
theorem dL_law_246 : decode cL_law 246 = .ok (.aload_n 0, 1) := by decide +kernel
theorem dL_law_247 : decode cL_law 247 = .ok (.iload 4, 2) := by decide +kernel
theorem dL_law_249 : decode cL_law 249 = .ok (.iconst 4, 1) := by decide +kernel
theorem dL_law_250 : decode cL_law 250 = .ok (.iadd, 1) := by decide +kernel
theorem dL_law_251 : decode cL_law 251 = .ok (.iaload, 1) := by decide +kernel
theorem dL_law_252 : decode cL_law 252 = .ok (.ifCond .eq 7, 3) := by decide +kernel
theorem dL_law_255 : decode cL_law 255 = .ok (.iconst 1, 1) := by decide +kernel
theorem dL_law_256 : decode cL_law 256 = .ok (.goto 4, 3) := by decide +kernel
theorem dL_law_259 : decode cL_law 259 = .ok (.iconst 0, 1) := by decide +kernel
theorem dL_law_260 : decode cL_law 260 = .ok (.aload_n 3, 1) := by decide +kernel
theorem dL_law_261 : decode cL_law 261 = .ok (.invokestatic 64, 3) := by decide +kernel
theorem dL_law_264 : decode cL_law 264 = .ok (.istore 5, 2) := by decide +kernel
theorem dL_law_266 : decode cL_law 266 = .ok (.aload_n 2, 1) := by decide +kernel
theorem dL_law_267 : decode cL_law 267 = .ok (.aload_n 0, 1) := by decide +kernel
theorem dL_law_268 : decode cL_law 268 = .ok (.iload 4, 2) := by decide +kernel
theorem dL_law_270 : decode cL_law 270 = .ok (.iconst 1, 1) := by decide +kernel
theorem dL_law_271 : decode cL_law 271 = .ok (.iadd, 1) := by decide +kernel
theorem dL_law_272 : decode cL_law 272 = .ok (.iaload, 1) := by decide +kernel
theorem dL_law_273 : decode cL_law 273 = .ok (.aload_n 0, 1) := by decide +kernel
theorem dL_law_274 : decode cL_law 274 = .ok (.iload 4, 2) := by decide +kernel
theorem dL_law_276 : decode cL_law 276 = .ok (.iconst 2, 1) := by decide +kernel
theorem dL_law_277 : decode cL_law 277 = .ok (.iadd, 1) := by decide +kernel
theorem dL_law_278 : decode cL_law 278 = .ok (.iaload, 1) := by decide +kernel
theorem dL_law_279 : decode cL_law 279 = .ok (.aload_n 0, 1) := by decide +kernel
theorem dL_law_280 : decode cL_law 280 = .ok (.iload 4, 2) := by decide +kernel
theorem dL_law_282 : decode cL_law 282 = .ok (.iconst 3, 1) := by decide +kernel
theorem dL_law_283 : decode cL_law 283 = .ok (.iadd, 1) := by decide +kernel
theorem dL_law_284 : decode cL_law 284 = .ok (.iaload, 1) := by decide +kernel
theorem dL_law_285 : decode cL_law 285 = .ok (.aload_n 0, 1) := by decide +kernel
theorem dL_law_286 : decode cL_law 286 = .ok (.iload 4, 2) := by decide +kernel
theorem dL_law_288 : decode cL_law 288 = .ok (.iconst 4, 1) := by decide +kernel
theorem dL_law_289 : decode cL_law 289 = .ok (.iadd, 1) := by decide +kernel
theorem dL_law_290 : decode cL_law 290 = .ok (.iaload, 1) := by decide +kernel
theorem dL_law_291 : decode cL_law 291 = .ok (.ifCond .eq 7, 3) := by decide +kernel
theorem dL_law_294 : decode cL_law 294 = .ok (.iconst 1, 1) := by decide +kernel
theorem dL_law_295 : decode cL_law 295 = .ok (.goto 4, 3) := by decide +kernel
theorem dL_law_298 : decode cL_law 298 = .ok (.iconst 0, 1) := by decide +kernel
theorem dL_law_299 : decode cL_law 299 = .ok (.invokevirtual 67, 3) := by decide +kernel
theorem dL_law_302 : decode cL_law 302 = .ok (.istore 6, 2) := by decide +kernel
theorem dL_law_304 : decode cL_law 304 = .ok (.aload_n 2, 1) := by decide +kernel
theorem dL_law_305 : decode cL_law 305 = .ok (.invokevirtual 53, 3) := by decide +kernel
theorem dL_law_308 : decode cL_law 308 = .ok (.iload 5, 2) := by decide +kernel
theorem dL_law_310 : decode cL_law 310 = .ok (.if_icmp .eq 5, 3) := by decide +kernel
theorem dL_law_313 : decode cL_law 313 = .ok (.iconst 0, 1) := by decide +kernel
theorem dL_law_314 : decode cL_law 314 = .ok (.ireturn, 1) := by decide +kernel
theorem dL_law_315 : decode cL_law 315 = .ok (.iload 5, 2) := by decide +kernel
theorem dL_law_317 : decode cL_law 317 = .ok (.ifCond .ne 15, 3) := by decide +kernel
theorem dL_law_320 : decode cL_law 320 = .ok (.aload_n 3, 1) := by decide +kernel
theorem dL_law_321 : decode cL_law 321 = .ok (.iconst 0, 1) := by decide +kernel
theorem dL_law_322 : decode cL_law 322 = .ok (.laload, 1) := by decide +kernel
theorem dL_law_323 : decode cL_law 323 = .ok (.iload 6, 2) := by decide +kernel
theorem dL_law_325 : decode cL_law 325 = .ok (.i2l, 1) := by decide +kernel
theorem dL_law_326 : decode cL_law 326 = .ok (.lcmp, 1) := by decide +kernel
theorem dL_law_327 : decode cL_law 327 = .ok (.ifCond .eq 5, 3) := by decide +kernel
theorem dL_law_330 : decode cL_law 330 = .ok (.iconst 0, 1) := by decide +kernel
theorem dL_law_331 : decode cL_law 331 = .ok (.ireturn, 1) := by decide +kernel
theorem dL_law_332 : decode cL_law 332 = .ok (.goto 240, 3) := by decide +kernel
theorem dL_law_335 : decode cL_law 335 = .ok (.aload_n 1, 1) := by decide +kernel
theorem dL_law_336 : decode cL_law 336 = .ok (.aload_n 3, 1) := by decide +kernel
theorem dL_law_337 : decode cL_law 337 = .ok (.invokestatic 68, 3) := by decide +kernel
theorem dL_law_340 : decode cL_law 340 = .ok (.istore 5, 2) := by decide +kernel
theorem dL_law_342 : decode cL_law 342 = .ok (.aload_n 2, 1) := by decide +kernel
theorem dL_law_343 : decode cL_law 343 = .ok (.invokevirtual 71, 3) := by decide +kernel
theorem dL_law_346 : decode cL_law 346 = .ok (.istore 6, 2) := by decide +kernel
theorem dL_law_348 : decode cL_law 348 = .ok (.aload_n 2, 1) := by decide +kernel
theorem dL_law_349 : decode cL_law 349 = .ok (.invokevirtual 53, 3) := by decide +kernel
theorem dL_law_352 : decode cL_law 352 = .ok (.iload 5, 2) := by decide +kernel
theorem dL_law_354 : decode cL_law 354 = .ok (.if_icmp .eq 5, 3) := by decide +kernel
theorem dL_law_357 : decode cL_law 357 = .ok (.iconst 0, 1) := by decide +kernel
theorem dL_law_358 : decode cL_law 358 = .ok (.ireturn, 1) := by decide +kernel
theorem dL_law_359 : decode cL_law 359 = .ok (.iload 5, 2) := by decide +kernel
theorem dL_law_361 : decode cL_law 361 = .ok (.ifCond .ne 15, 3) := by decide +kernel
theorem dL_law_364 : decode cL_law 364 = .ok (.aload_n 3, 1) := by decide +kernel
theorem dL_law_365 : decode cL_law 365 = .ok (.iconst 0, 1) := by decide +kernel
theorem dL_law_366 : decode cL_law 366 = .ok (.laload, 1) := by decide +kernel
theorem dL_law_367 : decode cL_law 367 = .ok (.iload 6, 2) := by decide +kernel
theorem dL_law_369 : decode cL_law 369 = .ok (.i2l, 1) := by decide +kernel
theorem dL_law_370 : decode cL_law 370 = .ok (.lcmp, 1) := by decide +kernel
theorem dL_law_371 : decode cL_law 371 = .ok (.ifCond .eq 5, 3) := by decide +kernel
theorem dL_law_374 : decode cL_law 374 = .ok (.iconst 0, 1) := by decide +kernel
theorem dL_law_375 : decode cL_law 375 = .ok (.ireturn, 1) := by decide +kernel
theorem dL_law_376 : decode cL_law 376 = .ok (.goto 196, 3) := by decide +kernel
theorem dL_law_379 : decode cL_law 379 = .ok (.aload_n 1, 1) := by decide +kernel
theorem dL_law_380 : decode cL_law 380 = .ok (.aload_n 3, 1) := by decide +kernel
theorem dL_law_381 : decode cL_law 381 = .ok (.invokestatic 72, 3) := by decide +kernel
theorem dL_law_384 : decode cL_law 384 = .ok (.istore 5, 2) := by decide +kernel
theorem dL_law_386 : decode cL_law 386 = .ok (.aload_n 2, 1) := by decide +kernel
theorem dL_law_387 : decode cL_law 387 = .ok (.invokevirtual 74, 3) := by decide +kernel
theorem dL_law_390 : decode cL_law 390 = .ok (.istore 6, 2) := by decide +kernel
theorem dL_law_392 : decode cL_law 392 = .ok (.aload_n 2, 1) := by decide +kernel
theorem dL_law_393 : decode cL_law 393 = .ok (.invokevirtual 53, 3) := by decide +kernel
theorem dL_law_396 : decode cL_law 396 = .ok (.iload 5, 2) := by decide +kernel
theorem dL_law_398 : decode cL_law 398 = .ok (.if_icmp .eq 5, 3) := by decide +kernel
theorem dL_law_401 : decode cL_law 401 = .ok (.iconst 0, 1) := by decide +kernel
theorem dL_law_402 : decode cL_law 402 = .ok (.ireturn, 1) := by decide +kernel
theorem dL_law_403 : decode cL_law 403 = .ok (.iload 5, 2) := by decide +kernel
theorem dL_law_405 : decode cL_law 405 = .ok (.ifCond .ne 15, 3) := by decide +kernel
theorem dL_law_408 : decode cL_law 408 = .ok (.aload_n 3, 1) := by decide +kernel
theorem dL_law_409 : decode cL_law 409 = .ok (.iconst 0, 1) := by decide +kernel
theorem dL_law_410 : decode cL_law 410 = .ok (.laload, 1) := by decide +kernel
theorem dL_law_411 : decode cL_law 411 = .ok (.iload 6, 2) := by decide +kernel
theorem dL_law_413 : decode cL_law 413 = .ok (.i2l, 1) := by decide +kernel
theorem dL_law_414 : decode cL_law 414 = .ok (.lcmp, 1) := by decide +kernel
theorem dL_law_415 : decode cL_law 415 = .ok (.ifCond .eq 5, 3) := by decide +kernel
theorem dL_law_418 : decode cL_law 418 = .ok (.iconst 0, 1) := by decide +kernel
theorem dL_law_419 : decode cL_law 419 = .ok (.ireturn, 1) := by decide +kernel
theorem dL_law_420 : decode cL_law 420 = .ok (.goto 152, 3) := by decide +kernel
theorem dL_law_423 : decode cL_law 423 = .ok (.aload_n 1, 1) := by decide +kernel
theorem dL_law_424 : decode cL_law 424 = .ok (.aload_n 0, 1) := by decide +kernel
theorem dL_law_425 : decode cL_law 425 = .ok (.iload 4, 2) := by decide +kernel
theorem dL_law_427 : decode cL_law 427 = .ok (.iconst 1, 1) := by decide +kernel
theorem dL_law_428 : decode cL_law 428 = .ok (.iadd, 1) := by decide +kernel
theorem dL_law_429 : decode cL_law 429 = .ok (.iaload, 1) := by decide +kernel
theorem dL_law_430 : decode cL_law 430 = .ok (.aload_n 3, 1) := by decide +kernel
theorem dL_law_431 : decode cL_law 431 = .ok (.invokestatic 75, 3) := by decide +kernel
theorem dL_law_434 : decode cL_law 434 = .ok (.istore 5, 2) := by decide +kernel
theorem dL_law_436 : decode cL_law 436 = .ok (.aload_n 2, 1) := by decide +kernel
theorem dL_law_437 : decode cL_law 437 = .ok (.aload_n 0, 1) := by decide +kernel
theorem dL_law_438 : decode cL_law 438 = .ok (.iload 4, 2) := by decide +kernel
theorem dL_law_440 : decode cL_law 440 = .ok (.iconst 1, 1) := by decide +kernel
theorem dL_law_441 : decode cL_law 441 = .ok (.iadd, 1) := by decide +kernel
theorem dL_law_442 : decode cL_law 442 = .ok (.iaload, 1) := by decide +kernel
theorem dL_law_443 : decode cL_law 443 = .ok (.invokevirtual 78, 3) := by decide +kernel
theorem dL_law_446 : decode cL_law 446 = .ok (.istore 6, 2) := by decide +kernel
theorem dL_law_448 : decode cL_law 448 = .ok (.aload_n 2, 1) := by decide +kernel
theorem dL_law_449 : decode cL_law 449 = .ok (.invokevirtual 53, 3) := by decide +kernel
theorem dL_law_452 : decode cL_law 452 = .ok (.iload 5, 2) := by decide +kernel
theorem dL_law_454 : decode cL_law 454 = .ok (.if_icmp .eq 5, 3) := by decide +kernel
theorem dL_law_457 : decode cL_law 457 = .ok (.iconst 0, 1) := by decide +kernel
theorem dL_law_458 : decode cL_law 458 = .ok (.ireturn, 1) := by decide +kernel
theorem dL_law_459 : decode cL_law 459 = .ok (.iload 5, 2) := by decide +kernel
theorem dL_law_461 : decode cL_law 461 = .ok (.ifCond .ne 15, 3) := by decide +kernel
theorem dL_law_464 : decode cL_law 464 = .ok (.aload_n 3, 1) := by decide +kernel
theorem dL_law_465 : decode cL_law 465 = .ok (.iconst 0, 1) := by decide +kernel
theorem dL_law_466 : decode cL_law 466 = .ok (.laload, 1) := by decide +kernel
theorem dL_law_467 : decode cL_law 467 = .ok (.iload 6, 2) := by decide +kernel
theorem dL_law_469 : decode cL_law 469 = .ok (.i2l, 1) := by decide +kernel
theorem dL_law_470 : decode cL_law 470 = .ok (.lcmp, 1) := by decide +kernel
theorem dL_law_471 : decode cL_law 471 = .ok (.ifCond .eq 5, 3) := by decide +kernel
theorem dL_law_474 : decode cL_law 474 = .ok (.iconst 0, 1) := by decide +kernel
theorem dL_law_475 : decode cL_law 475 = .ok (.ireturn, 1) := by decide +kernel
theorem dL_law_476 : decode cL_law 476 = .ok (.goto 96, 3) := by decide +kernel
theorem dL_law_479 : decode cL_law 479 = .ok (.aload_n 1, 1) := by decide +kernel
theorem dL_law_480 : decode cL_law 480 = .ok (.aload_n 0, 1) := by decide +kernel
theorem dL_law_481 : decode cL_law 481 = .ok (.iload 4, 2) := by decide +kernel
theorem dL_law_483 : decode cL_law 483 = .ok (.iconst 1, 1) := by decide +kernel
theorem dL_law_484 : decode cL_law 484 = .ok (.iadd, 1) := by decide +kernel
theorem dL_law_485 : decode cL_law 485 = .ok (.iaload, 1) := by decide +kernel
theorem dL_law_486 : decode cL_law 486 = .ok (.aload_n 0, 1) := by decide +kernel
theorem dL_law_487 : decode cL_law 487 = .ok (.iload 4, 2) := by decide +kernel
theorem dL_law_489 : decode cL_law 489 = .ok (.iconst 2, 1) := by decide +kernel
theorem dL_law_490 : decode cL_law 490 = .ok (.iadd, 1) := by decide +kernel
theorem dL_law_491 : decode cL_law 491 = .ok (.iaload, 1) := by decide +kernel
theorem dL_law_492 : decode cL_law 492 = .ok (.aload_n 0, 1) := by decide +kernel
theorem dL_law_493 : decode cL_law 493 = .ok (.iload 4, 2) := by decide +kernel
theorem dL_law_495 : decode cL_law 495 = .ok (.iconst 3, 1) := by decide +kernel
theorem dL_law_496 : decode cL_law 496 = .ok (.iadd, 1) := by decide +kernel
theorem dL_law_497 : decode cL_law 497 = .ok (.iaload, 1) := by decide +kernel
theorem dL_law_498 : decode cL_law 498 = .ok (.aload_n 3, 1) := by decide +kernel
theorem dL_law_499 : decode cL_law 499 = .ok (.invokestatic 79, 3) := by decide +kernel
theorem dL_law_502 : decode cL_law 502 = .ok (.istore 5, 2) := by decide +kernel
theorem dL_law_504 : decode cL_law 504 = .ok (.aload_n 2, 1) := by decide +kernel
theorem dL_law_505 : decode cL_law 505 = .ok (.aload_n 0, 1) := by decide +kernel
theorem dL_law_506 : decode cL_law 506 = .ok (.iload 4, 2) := by decide +kernel
theorem dL_law_508 : decode cL_law 508 = .ok (.iconst 1, 1) := by decide +kernel
theorem dL_law_509 : decode cL_law 509 = .ok (.iadd, 1) := by decide +kernel
theorem dL_law_510 : decode cL_law 510 = .ok (.iaload, 1) := by decide +kernel
theorem dL_law_511 : decode cL_law 511 = .ok (.aload_n 0, 1) := by decide +kernel
theorem dL_law_512 : decode cL_law 512 = .ok (.iload 4, 2) := by decide +kernel
theorem dL_law_514 : decode cL_law 514 = .ok (.iconst 2, 1) := by decide +kernel
theorem dL_law_515 : decode cL_law 515 = .ok (.iadd, 1) := by decide +kernel
theorem dL_law_516 : decode cL_law 516 = .ok (.iaload, 1) := by decide +kernel
theorem dL_law_517 : decode cL_law 517 = .ok (.aload_n 0, 1) := by decide +kernel
theorem dL_law_518 : decode cL_law 518 = .ok (.iload 4, 2) := by decide +kernel
theorem dL_law_520 : decode cL_law 520 = .ok (.iconst 3, 1) := by decide +kernel
theorem dL_law_521 : decode cL_law 521 = .ok (.iadd, 1) := by decide +kernel
theorem dL_law_522 : decode cL_law 522 = .ok (.iaload, 1) := by decide +kernel
theorem dL_law_523 : decode cL_law 523 = .ok (.invokevirtual 81, 3) := by decide +kernel
theorem dL_law_526 : decode cL_law 526 = .ok (.istore 6, 2) := by decide +kernel
theorem dL_law_528 : decode cL_law 528 = .ok (.aload_n 2, 1) := by decide +kernel
theorem dL_law_529 : decode cL_law 529 = .ok (.invokevirtual 53, 3) := by decide +kernel
theorem dL_law_532 : decode cL_law 532 = .ok (.iload 5, 2) := by decide +kernel
theorem dL_law_534 : decode cL_law 534 = .ok (.if_icmp .eq 5, 3) := by decide +kernel
theorem dL_law_537 : decode cL_law 537 = .ok (.iconst 0, 1) := by decide +kernel
theorem dL_law_538 : decode cL_law 538 = .ok (.ireturn, 1) := by decide +kernel
theorem dL_law_539 : decode cL_law 539 = .ok (.iload 5, 2) := by decide +kernel
theorem dL_law_541 : decode cL_law 541 = .ok (.ifCond .ne 15, 3) := by decide +kernel
theorem dL_law_544 : decode cL_law 544 = .ok (.aload_n 3, 1) := by decide +kernel
theorem dL_law_545 : decode cL_law 545 = .ok (.iconst 0, 1) := by decide +kernel
theorem dL_law_546 : decode cL_law 546 = .ok (.laload, 1) := by decide +kernel
theorem dL_law_547 : decode cL_law 547 = .ok (.iload 6, 2) := by decide +kernel
theorem dL_law_549 : decode cL_law 549 = .ok (.i2l, 1) := by decide +kernel
theorem dL_law_550 : decode cL_law 550 = .ok (.lcmp, 1) := by decide +kernel
theorem dL_law_551 : decode cL_law 551 = .ok (.ifCond .eq 5, 3) := by decide +kernel
theorem dL_law_554 : decode cL_law 554 = .ok (.iconst 0, 1) := by decide +kernel
theorem dL_law_555 : decode cL_law 555 = .ok (.ireturn, 1) := by decide +kernel
theorem dL_law_556 : decode cL_law 556 = .ok (.goto 16, 3) := by decide +kernel
theorem dL_law_559 : decode cL_law 559 = .ok (.aload_n 1, 1) := by decide +kernel
theorem dL_law_560 : decode cL_law 560 = .ok (.invokevirtual 82, 3) := by decide +kernel
theorem dL_law_563 : decode cL_law 563 = .ok (.aload_n 2, 1) := by decide +kernel
theorem dL_law_564 : decode cL_law 564 = .ok (.invokevirtual 85, 3) := by decide +kernel
theorem dL_law_567 : decode cL_law 567 = .ok (.if_icmp .eq 5, 3) := by decide +kernel
theorem dL_law_570 : decode cL_law 570 = .ok (.iconst 0, 1) := by decide +kernel
theorem dL_law_571 : decode cL_law 571 = .ok (.ireturn, 1) := by decide +kernel
theorem dL_law_572 : decode cL_law 572 = .ok (.iinc 4 5, 3) := by decide +kernel
theorem dL_law_575 : decode cL_law 575 = .ok (.goto (-552), 3) := by decide +kernel
theorem dL_law_578 : decode cL_law 578 = .ok (.iconst 1, 1) := by decide +kernel
theorem dL_law_579 : decode cL_law 579 = .ok (.ireturn, 1) := by decide +kernel
end
section
/-! ROWS FOR INTS THAT ARE SMALL NATURALS, the two worlds, what throws need -/
section NR
variable {p : Program} {l : Launch} {e : Env} {R : Room} {s : State} {m : MethodId} {args : Array Value} {below : List Frame} {meth : Method} {c : Code} {H : Heap} {locs : List Loc} {cells slots : Nat} {Q : State → Prop}
variable {cc : ByteArray} {pc : Nat} {ls : Array Slot} {rest : List Value} {D : va_G} {cl : List vw_C} {A : Nat → Prop} {a : Nat} {tys : List (ClassId × FieldType)} {ws : va_W} {H0 : Heap}
theorem nr_iald (hexec : p.tables.exec = Jvm.exec) (hb : c.code = cc) (hK : va_K D cl tys s) (hP : va_P D cl ws H) (q0 t0 : Nat) {cA : ClassId} {n : Nat} {f : Nat → Int32} (ha : ws[q0]? = some (a, .inl (cA, n, .inl f))) (ht : tys[t0]? = some (cA, .int)) {j : Nat} (hj : j < n) (hn : n < 2 ^ 31) (hdg : decode cc pc = .ok (.iaload, 1))
    (kk : W p l e R s m args below meth c H locs cells slots Q (F0 m (pc + 1) ls (.int (f j) :: rest))) : W p l e R s m args below meth c H locs cells slots Q (F0 m pc ls (.int (nI j) :: .ref a :: rest)) := by
  refine va_iald hexec hb hK hP q0 t0 ha ht (vp_in_nI hj hn) hdg ?_
  rw [nI_clamp (Nat.lt_trans hj hn)]; exact kk
theorem nr_zald (hexec : p.tables.exec = Jvm.exec) (hb : c.code = cc) (hK : va_K D cl tys s) (hP : va_P D cl ws H) (q0 t0 : Nat) {cA : ClassId} {n : Nat} {f : Nat → Int32} (ha : ws[q0]? = some (a, .inl (cA, n, .inl f))) (ht : tys[t0]? = some (cA, .boolean)) {j : Nat} (hj : j < n) (hn : n < 2 ^ 31) (hdg : decode cc pc = .ok (.baload, 1))
    (kk : W p l e R s m args below meth c H locs cells slots Q (F0 m (pc + 1) ls (.int (f j) :: rest))) : W p l e R s m args below meth c H locs cells slots Q (F0 m pc ls (.int (nI j) :: .ref a :: rest)) := by
  refine va_zald hexec hb hK hP q0 t0 ha ht (vp_in_nI hj hn) hdg ?_
  rw [nI_clamp (Nat.lt_trans hj hn)]; exact kk
theorem nr_iast (hexec : p.tables.exec = Jvm.exec) (hb : c.code = cc) (hK : va_K D cl tys s) (hP : va_P D cl ws H) (hD : va_D A ws) (hS : va_S A H0 H locs) (q0 t0 : Nat) {cA : ClassId} {n : Nat} {f : Nat → Int32} (ha : ws[q0]? = some (a, .inl (cA, n, .inl f))) (ht : tys[t0]? = some (cA, .int)) {j : Nat} {x : Int32} (hj : j < n) (hn : n < 2 ^ 31) (hdg : decode cc pc = .ok (.iastore, 1))
    (kk : ∀ (H1 : Heap) (locs1 : List Loc), va_P D cl (ws.set q0 (a, .inl (cA, n, .inl (upd f j x)))) H1 → va_D A (ws.set q0 (a, .inl (cA, n, .inl (upd f j x)))) → va_S A H0 H1 locs1 → W p l e R s m args below meth c H1 locs1 cells slots Q (F0 m (pc + 1) ls rest)) : W p l e R s m args below meth c H locs cells slots Q (F0 m pc ls (.int x :: .int (nI j) :: .ref a :: rest)) := by
  refine va_iast hexec hb hK hP hD hS q0 t0 ha ht (vp_in_nI hj hn) hdg (fun H1 locs1 h1 h2 h3 => ?_)
  rw [nI_clamp (Nat.lt_trans hj hn)] at h1 h2
  exact kk H1 locs1 h1 h2 h3
theorem nr_zast (hexec : p.tables.exec = Jvm.exec) (hb : c.code = cc) (hK : va_K D cl tys s) (hP : va_P D cl ws H) (hD : va_D A ws) (hS : va_S A H0 H locs) (q0 t0 : Nat) {cA : ClassId} {n : Nat} {f : Nat → Int32} (ha : ws[q0]? = some (a, .inl (cA, n, .inl f))) (ht : tys[t0]? = some (cA, .boolean)) {j : Nat} {x : Int32} (hj : j < n) (hn : n < 2 ^ 31) (hdg : decode cc pc = .ok (.bastore, 1))
    (kk : ∀ (H1 : Heap) (locs1 : List Loc), va_P D cl (ws.set q0 (a, .inl (cA, n, .inl (upd f j (vp_nar .boolean x))))) H1 → va_D A (ws.set q0 (a, .inl (cA, n, .inl (upd f j (vp_nar .boolean x))))) → va_S A H0 H1 locs1 → W p l e R s m args below meth c H1 locs1 cells slots Q (F0 m (pc + 1) ls rest)) : W p l e R s m args below meth c H locs cells slots Q (F0 m pc ls (.int x :: .int (nI j) :: .ref a :: rest)) := by
  refine va_zast hexec hb hK hP hD hS q0 t0 ha ht (vp_in_nI hj hn) hdg (fun H1 locs1 h1 h2 h3 => ?_)
  rw [nI_clamp (Nat.lt_trans hj hn)] at h1 h2
  exact kk H1 locs1 h1 h2 h3
theorem nr_aald (hexec : p.tables.exec = Jvm.exec) (hb : c.code = cc) (hK : va_K D cl tys s) (hP : va_P D cl ws H) (q0 t0 : Nat) {cA : ClassId} {n : Nat} {f : Nat → Option Nat} (ha : ws[q0]? = some (a, .inl (cA, n, .inr (.inr (.inr (.inr f)))))) (ht : tys[t0]? = some (cA, .array .int)) {j : Nat} (hj : j < n) (hn : n < 2 ^ 31) (hdg : decode cc pc = .ok (.aaload, 1))
    (kk : W p l e R s m args below meth c H locs cells slots Q (F0 m (pc + 1) ls (va_rf (f j) :: rest))) : W p l e R s m args below meth c H locs cells slots Q (F0 m pc ls (.int (nI j) :: .ref a :: rest)) := by
  have hin : vp_in (nI j) n := vp_in_nI hj hn
  have hc : (nI j).toNatClampNeg = j := nI_clamp (Nat.lt_trans hj hn)
  refine W.aald (v := va_rf (f j)) (ty := .array .int) hexec hb (hP q0 _ ha) ((hK.2 t0 _ ht).1 n (fun j => va_rf (f j))) rfl (fun q => by cases q) (by show ¬ (nI j < 0 ∨ (arrV _ _ _).slots.size ≤ _); rw [arrV_size]; exact hin) (by show (arrV _ _ _).slots[_]? = _; rw [hc, arrV_read _ _ hj]) rfl rfl hdg kk
theorem nr_iadd (hexec : p.tables.exec = Jvm.exec) (hb : c.code = cc) {a1 b1 : Nat} (hdg : decode cc pc = .ok (.iadd, 1)) (k : W p l e R s m args below meth c H locs cells slots Q (F0 m (pc + 1) ls (.int (nI (a1 + b1)) :: rest))) : W p l e R s m args below meth c H locs cells slots Q (F0 m pc ls (.int (nI b1) :: .int (nI a1) :: rest)) := by
  refine lv_iadd hexec hb hdg ?_
  rw [nI_add a1 b1]; exact k
theorem nr_isub (hexec : p.tables.exec = Jvm.exec) (hb : c.code = cc) {a1 b1 : Nat} (hle : b1 ≤ a1) (hdg : decode cc pc = .ok (.isub, 1)) (k : W p l e R s m args below meth c H locs cells slots Q (F0 m (pc + 1) ls (.int (nI (a1 - b1)) :: rest))) : W p l e R s m args below meth c H locs cells slots Q (F0 m pc ls (.int (nI b1) :: .int (nI a1) :: rest)) := by
  refine lv_isub hexec hb hdg ?_
  rw [pk_sub hle]; exact k
theorem nr_imul (hexec : p.tables.exec = Jvm.exec) (hb : c.code = cc) {a1 b1 : Nat} (hdg : decode cc pc = .ok (.imul, 1)) (k : W p l e R s m args below meth c H locs cells slots Q (F0 m (pc + 1) ls (.int (nI (a1 * b1)) :: rest))) : W p l e R s m args below meth c H locs cells slots Q (F0 m pc ls (.int (nI b1) :: .int (nI a1) :: rest)) := by
  refine lv_imul hexec hb hdg ?_
  rw [pk_mul a1 b1]; exact k
theorem nr_icmp_eq (hexec : p.tables.exec = Jvm.exec) (hb : c.code = cc) {a1 b1 : Nat} (ha : a1 < 2 ^ 31) (hb1 : b1 < 2 ^ 31) {off : Int} {tgt : Nat} (hdg : decode cc pc = .ok (.if_icmp .eq off, 3)) (ht : (pc : Int) + off = (tgt : Int))
    (kt : a1 = b1 → W p l e R s m args below meth c H locs cells slots Q (F0 m tgt ls rest)) (kf : a1 ≠ b1 → W p l e R s m args below meth c H locs cells slots Q (F0 m (pc + 3) ls rest)) : W p l e R s m args below meth c H locs cells slots Q (F0 m pc ls (.int (nI b1) :: .int (nI a1) :: rest)) :=
  lv_icmp_eq hexec hb hdg ht (fun h => kt ((nI_eq ha hb1).mp h)) (fun h => kf (fun q => h ((nI_eq ha hb1).mpr q)))
theorem nr_if_eq (hexec : p.tables.exec = Jvm.exec) (hb : c.code = cc) {a1 : Nat} (ha : a1 < 2 ^ 31) {off : Int} {tgt : Nat} (hdg : decode cc pc = .ok (.ifCond .eq off, 3)) (ht : (pc : Int) + off = (tgt : Int))
    (kt : a1 = 0 → W p l e R s m args below meth c H locs cells slots Q (F0 m tgt ls rest)) (kf : a1 ≠ 0 → W p l e R s m args below meth c H locs cells slots Q (F0 m (pc + 3) ls rest)) : W p l e R s m args below meth c H locs cells slots Q (F0 m pc ls (.int (nI a1) :: rest)) := by
  have hb1 : 0 < 2 ^ 31 := by decide
  refine lv_if_eq hexec hb hdg ht (fun h => kt ?_) (fun h => kf ?_) <;> rw [← nI_0] at h
  · exact (nI_eq ha hb1).mp h
  · exact fun q => h ((nI_eq ha hb1).mpr q)
theorem nr_icmp_ne (hexec : p.tables.exec = Jvm.exec) (hb : c.code = cc) {a1 b1 : Nat} (ha : a1 < 2 ^ 31) (hb1 : b1 < 2 ^ 31) {off : Int} {tgt : Nat} (hdg : decode cc pc = .ok (.if_icmp .ne off, 3)) (ht : (pc : Int) + off = (tgt : Int))
    (kt : a1 ≠ b1 → W p l e R s m args below meth c H locs cells slots Q (F0 m tgt ls rest)) (kf : a1 = b1 → W p l e R s m args below meth c H locs cells slots Q (F0 m (pc + 3) ls rest)) : W p l e R s m args below meth c H locs cells slots Q (F0 m pc ls (.int (nI b1) :: .int (nI a1) :: rest)) :=
  lv_icmp_ne hexec hb hdg ht (fun h => kt (fun q => h ((nI_eq ha hb1).mpr q))) (fun h => kf ((nI_eq ha hb1).mp h))
theorem nr_if_ne (hexec : p.tables.exec = Jvm.exec) (hb : c.code = cc) {a1 : Nat} (ha : a1 < 2 ^ 31) {off : Int} {tgt : Nat} (hdg : decode cc pc = .ok (.ifCond .ne off, 3)) (ht : (pc : Int) + off = (tgt : Int))
    (kt : a1 ≠ 0 → W p l e R s m args below meth c H locs cells slots Q (F0 m tgt ls rest)) (kf : a1 = 0 → W p l e R s m args below meth c H locs cells slots Q (F0 m (pc + 3) ls rest)) : W p l e R s m args below meth c H locs cells slots Q (F0 m pc ls (.int (nI a1) :: rest)) := by
  have hb1 : 0 < 2 ^ 31 := by decide
  refine lv_if_ne hexec hb hdg ht (fun h => kt ?_) (fun h => kf ?_) <;> rw [← nI_0] at h
  · exact fun q => h ((nI_eq ha hb1).mpr q)
  · exact (nI_eq ha hb1).mp h
theorem nr_icmp_lt (hexec : p.tables.exec = Jvm.exec) (hb : c.code = cc) {a1 b1 : Nat} (ha : a1 < 2 ^ 31) (hb1 : b1 < 2 ^ 31) {off : Int} {tgt : Nat} (hdg : decode cc pc = .ok (.if_icmp .lt off, 3)) (ht : (pc : Int) + off = (tgt : Int))
    (kt : a1 < b1 → W p l e R s m args below meth c H locs cells slots Q (F0 m tgt ls rest)) (kf : b1 ≤ a1 → W p l e R s m args below meth c H locs cells slots Q (F0 m (pc + 3) ls rest)) : W p l e R s m args below meth c H locs cells slots Q (F0 m pc ls (.int (nI b1) :: .int (nI a1) :: rest)) :=
  lv_icmp_lt hexec hb hdg ht (fun h => kt ((nI_ltI ha hb1).mp h)) (fun h => kf (Nat.not_lt.mp (fun q => h ((nI_ltI ha hb1).mpr q))))
theorem nr_if_lt (hexec : p.tables.exec = Jvm.exec) (hb : c.code = cc) {a1 : Nat} (ha : a1 < 2 ^ 31) {off : Int} {tgt : Nat} (hdg : decode cc pc = .ok (.ifCond .lt off, 3)) (ht : (pc : Int) + off = (tgt : Int))
    (kt : a1 < 0 → W p l e R s m args below meth c H locs cells slots Q (F0 m tgt ls rest)) (kf : 0 ≤ a1 → W p l e R s m args below meth c H locs cells slots Q (F0 m (pc + 3) ls rest)) : W p l e R s m args below meth c H locs cells slots Q (F0 m pc ls (.int (nI a1) :: rest)) := by
  have hb1 : 0 < 2 ^ 31 := by decide
  refine lv_if_lt hexec hb hdg ht (fun h => kt ?_) (fun h => kf ?_) <;> rw [← nI_0] at h
  · exact (nI_ltI ha hb1).mp h
  · exact Nat.not_lt.mp (fun q => h ((nI_ltI ha hb1).mpr q))
theorem nr_icmp_ge (hexec : p.tables.exec = Jvm.exec) (hb : c.code = cc) {a1 b1 : Nat} (ha : a1 < 2 ^ 31) (hb1 : b1 < 2 ^ 31) {off : Int} {tgt : Nat} (hdg : decode cc pc = .ok (.if_icmp .ge off, 3)) (ht : (pc : Int) + off = (tgt : Int))
    (kt : b1 ≤ a1 → W p l e R s m args below meth c H locs cells slots Q (F0 m tgt ls rest)) (kf : a1 < b1 → W p l e R s m args below meth c H locs cells slots Q (F0 m (pc + 3) ls rest)) : W p l e R s m args below meth c H locs cells slots Q (F0 m pc ls (.int (nI b1) :: .int (nI a1) :: rest)) :=
  lv_icmp_ge hexec hb hdg ht (fun h => kt ((nI_leI hb1 ha).mp h)) (fun h => kf (Nat.not_le.mp (fun q => h ((nI_leI hb1 ha).mpr q))))
theorem nr_if_ge (hexec : p.tables.exec = Jvm.exec) (hb : c.code = cc) {a1 : Nat} (ha : a1 < 2 ^ 31) {off : Int} {tgt : Nat} (hdg : decode cc pc = .ok (.ifCond .ge off, 3)) (ht : (pc : Int) + off = (tgt : Int))
    (kt : 0 ≤ a1 → W p l e R s m args below meth c H locs cells slots Q (F0 m tgt ls rest)) (kf : a1 < 0 → W p l e R s m args below meth c H locs cells slots Q (F0 m (pc + 3) ls rest)) : W p l e R s m args below meth c H locs cells slots Q (F0 m pc ls (.int (nI a1) :: rest)) := by
  have hb1 : 0 < 2 ^ 31 := by decide
  refine lv_if_ge hexec hb hdg ht (fun h => kt ?_) (fun h => kf ?_) <;> rw [← nI_0] at h
  · exact (nI_leI hb1 ha).mp h
  · exact Nat.not_le.mp (fun q => h ((nI_leI hb1 ha).mpr q))
theorem nr_icmp_gt (hexec : p.tables.exec = Jvm.exec) (hb : c.code = cc) {a1 b1 : Nat} (ha : a1 < 2 ^ 31) (hb1 : b1 < 2 ^ 31) {off : Int} {tgt : Nat} (hdg : decode cc pc = .ok (.if_icmp .gt off, 3)) (ht : (pc : Int) + off = (tgt : Int))
    (kt : b1 < a1 → W p l e R s m args below meth c H locs cells slots Q (F0 m tgt ls rest)) (kf : a1 ≤ b1 → W p l e R s m args below meth c H locs cells slots Q (F0 m (pc + 3) ls rest)) : W p l e R s m args below meth c H locs cells slots Q (F0 m pc ls (.int (nI b1) :: .int (nI a1) :: rest)) :=
  lv_icmp_gt hexec hb hdg ht (fun h => kt ((nI_ltI hb1 ha).mp h)) (fun h => kf (Nat.not_lt.mp (fun q => h ((nI_ltI hb1 ha).mpr q))))
theorem nr_if_gt (hexec : p.tables.exec = Jvm.exec) (hb : c.code = cc) {a1 : Nat} (ha : a1 < 2 ^ 31) {off : Int} {tgt : Nat} (hdg : decode cc pc = .ok (.ifCond .gt off, 3)) (ht : (pc : Int) + off = (tgt : Int))
    (kt : 0 < a1 → W p l e R s m args below meth c H locs cells slots Q (F0 m tgt ls rest)) (kf : a1 ≤ 0 → W p l e R s m args below meth c H locs cells slots Q (F0 m (pc + 3) ls rest)) : W p l e R s m args below meth c H locs cells slots Q (F0 m pc ls (.int (nI a1) :: rest)) := by
  have hb1 : 0 < 2 ^ 31 := by decide
  refine lv_if_gt hexec hb hdg ht (fun h => kt ?_) (fun h => kf ?_) <;> rw [← nI_0] at h
  · exact (nI_ltI hb1 ha).mp h
  · exact Nat.not_lt.mp (fun q => h ((nI_ltI hb1 ha).mpr q))
theorem nr_icmp_le (hexec : p.tables.exec = Jvm.exec) (hb : c.code = cc) {a1 b1 : Nat} (ha : a1 < 2 ^ 31) (hb1 : b1 < 2 ^ 31) {off : Int} {tgt : Nat} (hdg : decode cc pc = .ok (.if_icmp .le off, 3)) (ht : (pc : Int) + off = (tgt : Int))
    (kt : a1 ≤ b1 → W p l e R s m args below meth c H locs cells slots Q (F0 m tgt ls rest)) (kf : b1 < a1 → W p l e R s m args below meth c H locs cells slots Q (F0 m (pc + 3) ls rest)) : W p l e R s m args below meth c H locs cells slots Q (F0 m pc ls (.int (nI b1) :: .int (nI a1) :: rest)) :=
  lv_icmp_le hexec hb hdg ht (fun h => kt ((nI_leI ha hb1).mp h)) (fun h => kf (Nat.not_le.mp (fun q => h ((nI_leI ha hb1).mpr q))))
theorem nr_if_le (hexec : p.tables.exec = Jvm.exec) (hb : c.code = cc) {a1 : Nat} (ha : a1 < 2 ^ 31) {off : Int} {tgt : Nat} (hdg : decode cc pc = .ok (.ifCond .le off, 3)) (ht : (pc : Int) + off = (tgt : Int))
    (kt : a1 ≤ 0 → W p l e R s m args below meth c H locs cells slots Q (F0 m tgt ls rest)) (kf : 0 < a1 → W p l e R s m args below meth c H locs cells slots Q (F0 m (pc + 3) ls rest)) : W p l e R s m args below meth c H locs cells slots Q (F0 m pc ls (.int (nI a1) :: rest)) := by
  have hb1 : 0 < 2 ^ 31 := by decide
  refine lv_if_le hexec hb hdg ht (fun h => kt ?_) (fun h => kf ?_) <;> rw [← nI_0] at h
  · exact (nI_leI ha hb1).mp h
  · exact Nat.not_le.mp (fun q => h ((nI_leI ha hb1).mpr q))
end NR
abbrev cls2 : List vw_C := [("EventPatterns", TX, 16), ("EventPatternsModel", TM, 16)]
/-- the class's object: its cell, its eleven arrays, the sixteen rows of ways. a: the arrays' contents (0 eventTimes, 1 eventKinds, 2 eventValues, 3 stepKinds, 4 stepTests, 5 stepBounds, 6 stepMany, 7 foundPlaces, 8 foundSteps); f: the numbers (0 came, 1 kept, 2 style, 3 span, 4 steps, 5 foundLength); w: ways -/
abbrev xw (q : Nat → Nat) (cI cZ cG : ClassId) (a : Nat → Nat → Int32) (f : Nat → Int32) (w : Nat → Nat → Int32) : va_W :=
  [(q 0, .inr (0, [.ref (q 1), .ref (q 2), .ref (q 3), .int (f 0), .int (f 1), .ref (q 4), .ref (q 5), .ref (q 6), .ref (q 7), .int (f 2), .int (f 3), .int (f 4), .ref (q 8), .ref (q 9), .ref (q 10), .int (f 5)])),
   (q 1, .inl (cI, 16, .inl (a 0))), (q 2, .inl (cI, 16, .inl (a 1))), (q 3, .inl (cI, 16, .inl (a 2))),
   (q 4, .inl (cI, 5, .inl (a 3))), (q 5, .inl (cI, 5, .inl (a 4))), (q 6, .inl (cI, 5, .inl (a 5))), (q 7, .inl (cZ, 5, .inl (a 6))),
   (q 8, .inl (cG, 16, .inr (.inr (.inr (.inr (fun k => some (q (11 + k)))))))),
   (q 9, .inl (cI, 16, .inl (a 7))), (q 10, .inl (cI, 16, .inl (a 8)))] ++ (List.range 16).map (fun k => (q (11 + k), .inl (cI, 5, .inl (w k))))
/-- the reference's object: its cell and ten arrays. b: the arrays' contents (0 times, 1 kinds, 2 values, 3 of, 4 tests, 5 least, 6 many, 7 ways, 8 foundAt, 9 foundStep); g: the numbers (0 thrown, 1 events, 2 style, 3 span, 4 steps, 5 found) -/
abbrev mw (r : Nat → Nat) (cI cZ : ClassId) (b : Nat → Nat → Int32) (g : Nat → Int32) : va_W :=
  [(r 0, .inr (1, [.int (g 0), .int (g 1), .ref (r 1), .ref (r 2), .ref (r 3), .int (g 2), .int (g 3), .int (g 4), .ref (r 4), .ref (r 5), .ref (r 6), .ref (r 7), .ref (r 8), .int (g 5), .ref (r 9), .ref (r 10)])),
   (r 1, .inl (cI, 400, .inl (b 0))), (r 2, .inl (cI, 400, .inl (b 1))), (r 3, .inl (cI, 400, .inl (b 2))),
   (r 4, .inl (cI, 5, .inl (b 3))), (r 5, .inl (cI, 5, .inl (b 4))), (r 6, .inl (cI, 5, .inl (b 5))), (r 7, .inl (cZ, 5, .inl (b 6))),
   (r 8, .inl (cI, 80, .inl (b 7))), (r 9, .inl (cI, 16, .inl (b 8))), (r 10, .inl (cI, 16, .inl (b 9)))]
abbrev xt (cI cZ cG : ClassId) : List (ClassId × FieldType) := [(cI, .int), (cZ, .boolean), (cG, .array .int)]
/-- a row of ways, by its number -/
theorem xw_row (q : Nat → Nat) (cI cZ cG : ClassId) (a : Nat → Nat → Int32) (f : Nat → Int32) (w : Nat → Nat → Int32) {k : Nat} (hk : k < 16) : (xw q cI cZ cG a f w)[11 + k]? = some (q (11 + k), .inl (cI, 5, .inl (w k))) := by
  unfold xw
  rw [List.getElem?_append_right (by simp)]
  simp [hk]
theorem xw_put (q : Nat → Nat) (cI cZ cG : ClassId) (a : Nat → Nat → Int32) (f : Nat → Int32) (w : Nat → Nat → Int32) {k : Nat} (hk : k < 16) (g : Nat → Int32) : (xw q cI cZ cG a f w).set (11 + k) (q (11 + k), .inl (cI, 5, .inl g)) = xw q cI cZ cG a f (va_up w k g) := by
  unfold xw
  rw [List.set_append_right _ _ (by simp)]
  congr 1
  apply List.ext_getElem?
  intro i
  simp only [List.length_cons, List.length_nil, Nat.zero_add, Nat.add_sub_cancel_left, List.getElem?_set, List.getElem?_map, List.length_map, List.length_range]
  by_cases h : k = i
  · subst h
    simp [hk, va_up]
  · simp only [h, if_false]
    by_cases h2 : i < 16
    · simp [h2, va_up, Ne.symm h]
    · simp [h2]
end
section
/-! WHAT THE CLASS'S READING METHODS ANSWER -/
theorem nr_dec {j : Nat} (h : 1 ≤ j) : nI j + Int32.ofInt (-1) = nI (j - 1) := by
  obtain ⟨k, rfl⟩ : ∃ k, j = k + 1 := ⟨j - 1, by omega⟩
  exact pk_m1 k
def bI (b : Bool) : Int32 := if b then 1 else 0
theorem bI_t : bI true = 1 := rfl
theorem bI_f : bI false = 0 := rfl
section NRB
variable {p : Program} {l : Launch} {e : Env} {R : Room} {s : State} {m : MethodId} {args : Array Value} {below : List Frame} {meth : Method} {c : Code} {H : Heap} {locs : List Loc} {cells slots : Nat} {Q : State → Prop}
variable {cc : ByteArray} {pc : Nat} {ls : Array Slot} {rest : List Value}
theorem nr_ifb_ne (hexec : p.tables.exec = Jvm.exec) (hb : c.code = cc) {b : Bool} {off : Int} {tgt : Nat} (hdg : decode cc pc = .ok (.ifCond .ne off, 3)) (ht : (pc : Int) + off = (tgt : Int))
    (kt : b = true → W p l e R s m args below meth c H locs cells slots Q (F0 m tgt ls rest)) (kf : b = false → W p l e R s m args below meth c H locs cells slots Q (F0 m (pc + 3) ls rest)) : W p l e R s m args below meth c H locs cells slots Q (F0 m pc ls (.int (bI b) :: rest)) :=
  lv_if_ne hexec hb hdg ht (fun h => kt (by cases b; exact absurd rfl h; rfl)) (fun h => kf (by cases b; rfl; exact absurd h (by decide)))
theorem nr_ifb_eq (hexec : p.tables.exec = Jvm.exec) (hb : c.code = cc) {b : Bool} {off : Int} {tgt : Nat} (hdg : decode cc pc = .ok (.ifCond .eq off, 3)) (ht : (pc : Int) + off = (tgt : Int))
    (kt : b = false → W p l e R s m args below meth c H locs cells slots Q (F0 m tgt ls rest)) (kf : b = true → W p l e R s m args below meth c H locs cells slots Q (F0 m (pc + 3) ls rest)) : W p l e R s m args below meth c H locs cells slots Q (F0 m pc ls (.int (bI b) :: rest)) :=
  lv_if_eq hexec hb hdg ht (fun h => kt (by cases b; rfl; exact absurd h (by decide))) (fun h => kf (by cases b; exact absurd rfl h; rfl))
end NRB
def xFit (a : Nat → Nat → Int32) (pl st ah fi : Nat) : Bool :=
  !decide ((a 3 st >>> (a 1 pl &&& 31)) &&& 1 = 0) && (if a 4 st = 1 then decide (pl = fi) || !decide (a 2 pl ≤ a 2 ah) else if a 4 st = 2 then decide (pl = fi) || !decide (a 2 ah ≤ a 2 pl) else if a 4 st = 3 then decide (a 2 pl = a 2 fi) else if a 4 st = 4 then !decide (a 2 pl < a 5 st) else true)
def xMay (a : Nat → Nat → Int32) (f : Nat → Int32) (fi pl nx : Nat) : Bool := (!decide (f 2 = 0) || decide (nx = pl + 1)) && !decide (f 3 < a 0 nx - a 0 fi)
def xSame (a : Nat → Nat → Int32) (w : Nat → Nat → Int32) (fi pl st nx : Nat) : Int32 := if a 6 st = 0 ∨ xFit a nx st pl fi = false then 0 else w nx st
def xNext (a : Nat → Nat → Int32) (w : Nat → Nat → Int32) (ms fi pl st nx : Nat) : Int32 := if st + 1 = ms ∨ xFit a nx (st + 1) pl fi = false then 0 else w nx (st + 1)
end
section
/-! THE CLASS: methods that only read -/
set_option maxHeartbeats 4000000 in
set_option maxRecDepth 100000 in
/-- events() -/
theorem tX_events (l : Launch) (dC : Nat → ClassId) (dI : Nat → Nat → Nat) (q : Nat → Nat) (cI cZ cG : ClassId) (a : Nat → Nat → Int32) (f : Nat → Int32) (w : Nat → Nat → Int32)   : Met l yX_events wX_events ({ frames := 0, cells := 0, slots := 0, locals := 0 }) (va_Pc [.ref (q 0)] (fun U => va_P (dC, dI) cls2 (xw q cI cZ cG a f w) U.heap ∧ va_K (dC, dI) cls2 (xt cI cZ cG) U)) (vp_Si (fun r0 => r0 = f 0)) 0 0 (fun _ => False) := by
  refine Met.ofW (cc := cX_events) (maxL := 1) (ret := (some .int)) (by decide) rfl ?_
  intro p e s m args below meth c s₁ B hml hv
  obtain ⟨rfl, hP, hK⟩ := hv
  have hx := B.exec
  have hb := B.bytes
  have hr := B.returns
  have hbw : ∀ w ∈ bw, w.before _ s = true := fun w h => atoms_spec (ws := wX_events) B.pre w (List.mem_cons_of_mem _ h)
  have hown : s.vm.findClass "EventPatterns" = some m.cls := findClass_of_methodNamed B.named
  have hlocks := B.notSynchronized
  have hl := lv_entry ([.ref (q 0)]) (n := 1) (Nat.le_of_ble_eq_true rfl)
  rw [lg_entry_eq]
  generalize (lg_sl ([.ref (q 0)]) ++ List.replicate (1 - (lg_sl ([.ref (q 0)])).length) Slot.unset).toArray = ls at hl ⊢
  have hl : lv_has ls 1 [(0, .ref (q 0))] := hl
  refine lv_aload_n hx hb dX_events_0 rfl (lv_at hl 0 rfl) ?_
  refine va_get (D := (dC, dI)) (ci := 0) (v := .int (f 0)) (C := "EventPatterns") (T := TX) (N := 16) hx hb hbw inX hown hK hP 0 rfl rfl 3 (by decide) (hbw _ kf_X_43) (fun _ h9 => h9) rfl dX_events_1 ?_
  exact W.iret (v := f 0) hx hb hr (fun t ht hW => ⟨f 0, rfl, rfl, ht⟩) (fun q h => by cases h) dX_events_4
set_option maxHeartbeats 4000000 in
set_option maxRecDepth 100000 in
/-- earliestTime() -/
theorem tX_earliestTime (l : Launch) (dC : Nat → ClassId) (dI : Nat → Nat → Nat) (q : Nat → Nat) (cI cZ cG : ClassId) (a : Nat → Nat → Int32) (f : Nat → Int32) (w : Nat → Nat → Int32) (n : Nat) (hn : n ≤ 16) (hf1 : f 1 = nI n) : Met l yX_earliestTime wX_earliestTime ({ frames := 0, cells := 0, slots := 0, locals := 0 }) (va_Pc [.ref (q 0)] (fun U => va_P (dC, dI) cls2 (xw q cI cZ cG a f w) U.heap ∧ va_K (dC, dI) cls2 (xt cI cZ cG) U)) (vp_Si (fun r0 => r0 = if n = 0 then 0 else a 0 (n - 1))) 0 0 (fun _ => False) := by
  refine Met.ofW (cc := cX_earliestTime) (maxL := 1) (ret := (some .int)) (by decide) rfl ?_
  intro p e s m args below meth c s₁ B hml hv
  obtain ⟨rfl, hP, hK⟩ := hv
  have hx := B.exec
  have hb := B.bytes
  have hr := B.returns
  have hbw : ∀ w ∈ bw, w.before _ s = true := fun w h => atoms_spec (ws := wX_earliestTime) B.pre w (List.mem_cons_of_mem _ h)
  have hown : s.vm.findClass "EventPatterns" = some m.cls := findClass_of_methodNamed B.named
  have hlocks := B.notSynchronized
  have hl := lv_entry ([.ref (q 0)]) (n := 1) (Nat.le_of_ble_eq_true rfl)
  rw [lg_entry_eq]
  generalize (lg_sl ([.ref (q 0)]) ++ List.replicate (1 - (lg_sl ([.ref (q 0)])).length) Slot.unset).toArray = ls at hl ⊢
  have hl : lv_has ls 1 [(0, .ref (q 0))] := hl
  refine lv_aload_n hx hb dX_earliestTime_0 rfl (lv_at hl 0 rfl) ?_
  refine va_get (D := (dC, dI)) (ci := 0) (v := .int (nI (n))) (C := "EventPatterns") (T := TX) (N := 16) hx hb hbw inX hown hK hP 0 rfl rfl 4 (by decide) (hbw _ kf_X_47) (fun _ h9 => h9) (congrArg (fun z => some (Value.int z)) (hf1)) dX_earliestTime_1 ?_
  refine nr_if_le (tgt := 21) hx hb (a1 := n) (by omega) dX_earliestTime_4 (by decide) (fun c_4 => ?_) (fun c_4 => ?_)
  · refine lv_iconst (v := 0) hx hb dX_earliestTime_21 (by decide) ?_
    exact W.iret (v := 0) hx hb hr (fun t ht hW => ⟨0, rfl, by first | (rw [if_pos (by omega)]; done) | (rw [if_neg (by omega)]; done), ht⟩) (fun q h => by cases h) dX_earliestTime_22
  · refine lv_aload_n hx hb dX_earliestTime_7 rfl (lv_at hl 0 rfl) ?_
    refine va_get (D := (dC, dI)) (ci := 0) (v := .ref (q 1)) (C := "EventPatterns") (T := TX) (N := 16) hx hb hbw inX hown hK hP 0 rfl rfl 0 (by decide) (hbw _ kf_X_9) (fun _ h9 => h9) rfl dX_earliestTime_8 ?_
    refine lv_aload_n hx hb dX_earliestTime_11 rfl (lv_at hl 0 rfl) ?_
    refine va_get (D := (dC, dI)) (ci := 0) (v := .int (nI (n))) (C := "EventPatterns") (T := TX) (N := 16) hx hb hbw inX hown hK hP 0 rfl rfl 4 (by decide) (hbw _ kf_X_47) (fun _ h9 => h9) (congrArg (fun z => some (Value.int z)) (hf1)) dX_earliestTime_12 ?_
    refine lv_iconst (v := 1) hx hb dX_earliestTime_15 (by decide) ?_
    refine nr_isub hx hb (a1 := n) (b1 := 1) (by omega) dX_earliestTime_16 ?_
    refine nr_iald hx hb hK hP 1 0 rfl rfl (j := n - 1) (by omega) (by decide) dX_earliestTime_17 ?_
    refine lv_goto (tgt := 22) hx hb dX_earliestTime_18 (by decide) ?_
    exact W.iret (v := (a 0) (n - 1)) hx hb hr (fun t ht hW => ⟨(a 0) (n - 1), rfl, by first | (rw [if_pos (by omega)]; done) | (rw [if_neg (by omega)]; done), ht⟩) (fun q h => by cases h) dX_earliestTime_22
set_option maxHeartbeats 4000000 in
set_option maxRecDepth 100000 in
/-- isLastStep(step) -/
theorem tX_isLastStep (l : Launch) (dC : Nat → ClassId) (dI : Nat → Nat → Nat) (q : Nat → Nat) (cI cZ cG : ClassId) (a : Nat → Nat → Int32) (f : Nat → Int32) (w : Nat → Nat → Int32) (ms st : Nat) (h0 : 1 ≤ ms) (hm : ms ≤ 5) (hf4 : f 4 = nI ms) (hs : st < 5) : Met l yX_isLastStep wX_isLastStep ({ frames := 0, cells := 0, slots := 0, locals := 0 }) (va_Pc [.ref (q 0), .int (nI (st))] (fun U => va_P (dC, dI) cls2 (xw q cI cZ cG a f w) U.heap ∧ va_K (dC, dI) cls2 (xt cI cZ cG) U)) (vp_Si (fun r0 => r0 = bI (decide (st + 1 = ms)))) 0 0 (fun _ => False) := by
  refine Met.ofW (cc := cX_isLastStep) (maxL := 2) (ret := (some .boolean)) (by decide) rfl ?_
  intro p e s m args below meth c s₁ B hml hv
  obtain ⟨rfl, hP, hK⟩ := hv
  have hx := B.exec
  have hb := B.bytes
  have hr := B.returns
  have hbw : ∀ w ∈ bw, w.before _ s = true := fun w h => atoms_spec (ws := wX_isLastStep) B.pre w (List.mem_cons_of_mem _ h)
  have hown : s.vm.findClass "EventPatterns" = some m.cls := findClass_of_methodNamed B.named
  have hlocks := B.notSynchronized
  have hl := lv_entry ([.ref (q 0), .int (nI (st))]) (n := 2) (Nat.le_of_ble_eq_true rfl)
  rw [lg_entry_eq]
  generalize (lg_sl ([.ref (q 0), .int (nI (st))]) ++ List.replicate (2 - (lg_sl ([.ref (q 0), .int (nI (st))])).length) Slot.unset).toArray = ls at hl ⊢
  have hl : lv_has ls 2 [(0, .ref (q 0)), (1, .int (nI (st)))] := hl
  refine lv_iload_n hx hb dX_isLastStep_0 rfl (lv_at hl 1 rfl) ?_
  refine lv_aload_n hx hb dX_isLastStep_1 rfl (lv_at hl 0 rfl) ?_
  refine va_get (D := (dC, dI)) (ci := 0) (v := .int (nI (ms))) (C := "EventPatterns") (T := TX) (N := 16) hx hb hbw inX hown hK hP 0 rfl rfl 11 (by decide) (hbw _ kf_X_56) (fun _ h9 => h9) (congrArg (fun z => some (Value.int z)) (hf4)) dX_isLastStep_2 ?_
  refine lv_iconst (v := 1) hx hb dX_isLastStep_5 (by decide) ?_
  refine nr_isub hx hb (a1 := ms) (b1 := 1) (by omega) dX_isLastStep_6 ?_
  refine nr_icmp_ne (tgt := 14) hx hb (a1 := st) (b1 := ms - 1) (by omega) (by omega) dX_isLastStep_7 (by decide) (fun c_7 => ?_) (fun c_7 => ?_)
  · refine lv_iconst (v := 0) hx hb dX_isLastStep_14 (by decide) ?_
    exact W.zret (v := 0) hx hb hr rfl (fun t ht hW => ⟨0, rfl, by first | (rw [decide_eq_true (by omega)]; rfl) | (rw [decide_eq_false (by omega)]; rfl), ht⟩) (fun q h => by cases h) dX_isLastStep_15
  · refine lv_iconst (v := 1) hx hb dX_isLastStep_10 (by decide) ?_
    refine lv_goto (tgt := 15) hx hb dX_isLastStep_11 (by decide) ?_
    exact W.zret (v := 1) hx hb hr rfl (fun t ht hW => ⟨1, rfl, by first | (rw [decide_eq_true (by omega)]; rfl) | (rw [decide_eq_false (by omega)]; rfl), ht⟩) (fun q h => by cases h) dX_isLastStep_15
set_option maxHeartbeats 4000000 in
set_option maxRecDepth 100000 in
/-- mayFollow(first, place, next) -/
theorem tX_mayFollow (l : Launch) (dC : Nat → ClassId) (dI : Nat → Nat → Nat) (q : Nat → Nat) (cI cZ cG : ClassId) (a : Nat → Nat → Int32) (f : Nat → Int32) (w : Nat → Nat → Int32) (fi pl nx : Nat) (h1 : fi < 16) (h2 : pl < 16) (h3 : nx < 16) : Met l yX_mayFollow wX_mayFollow ({ frames := 0, cells := 0, slots := 0, locals := 0 }) (va_Pc [.ref (q 0), .int (nI (fi)), .int (nI (pl)), .int (nI (nx))] (fun U => va_P (dC, dI) cls2 (xw q cI cZ cG a f w) U.heap ∧ va_K (dC, dI) cls2 (xt cI cZ cG) U)) (vp_Si (fun r0 => r0 = bI (xMay a f fi pl nx))) 0 0 (fun _ => False) := by
  refine Met.ofW (cc := cX_mayFollow) (maxL := 4) (ret := (some .boolean)) (by decide) rfl ?_
  intro p e s m args below meth c s₁ B hml hv
  obtain ⟨rfl, hP, hK⟩ := hv
  have hx := B.exec
  have hb := B.bytes
  have hr := B.returns
  have hbw : ∀ w ∈ bw, w.before _ s = true := fun w h => atoms_spec (ws := wX_mayFollow) B.pre w (List.mem_cons_of_mem _ h)
  have hown : s.vm.findClass "EventPatterns" = some m.cls := findClass_of_methodNamed B.named
  have hlocks := B.notSynchronized
  have hl := lv_entry ([.ref (q 0), .int (nI (fi)), .int (nI (pl)), .int (nI (nx))]) (n := 4) (Nat.le_of_ble_eq_true rfl)
  rw [lg_entry_eq]
  generalize (lg_sl ([.ref (q 0), .int (nI (fi)), .int (nI (pl)), .int (nI (nx))]) ++ List.replicate (4 - (lg_sl ([.ref (q 0), .int (nI (fi)), .int (nI (pl)), .int (nI (nx))])).length) Slot.unset).toArray = ls at hl ⊢
  have hl : lv_has ls 4 [(0, .ref (q 0)), (1, .int (nI (fi))), (2, .int (nI (pl))), (3, .int (nI (nx)))] := hl
  refine lv_aload_n hx hb dX_mayFollow_0 rfl (lv_at hl 0 rfl) ?_
  refine va_get (D := (dC, dI)) (ci := 0) (v := .int (f 2)) (C := "EventPatterns") (T := TX) (N := 16) hx hb hbw inX hown hK hP 0 rfl rfl 9 (by decide) (hbw _ kf_X_50) (fun _ h9 => h9) rfl dX_mayFollow_1 ?_
  refine lv_if_ne (tgt := 16) hx hb dX_mayFollow_4 (by decide) (fun c_4 => ?_) (fun c_4 => ?_)
  · refine lv_aload_n hx hb dX_mayFollow_16 rfl (lv_at hl 0 rfl) ?_
    refine va_get (D := (dC, dI)) (ci := 0) (v := .ref (q 1)) (C := "EventPatterns") (T := TX) (N := 16) hx hb hbw inX hown hK hP 0 rfl rfl 0 (by decide) (hbw _ kf_X_9) (fun _ h9 => h9) rfl dX_mayFollow_17 ?_
    refine lv_iload_n hx hb dX_mayFollow_20 rfl (lv_at hl 3 rfl) ?_
    refine nr_iald hx hb hK hP 1 0 rfl rfl (j := nx) (by omega) (by decide) dX_mayFollow_21 ?_
    refine lv_aload_n hx hb dX_mayFollow_22 rfl (lv_at hl 0 rfl) ?_
    refine va_get (D := (dC, dI)) (ci := 0) (v := .ref (q 1)) (C := "EventPatterns") (T := TX) (N := 16) hx hb hbw inX hown hK hP 0 rfl rfl 0 (by decide) (hbw _ kf_X_9) (fun _ h9 => h9) rfl dX_mayFollow_23 ?_
    refine lv_iload_n hx hb dX_mayFollow_26 rfl (lv_at hl 1 rfl) ?_
    refine nr_iald hx hb hK hP 1 0 rfl rfl (j := fi) (by omega) (by decide) dX_mayFollow_27 ?_
    refine lv_isub hx hb dX_mayFollow_28 ?_
    refine lv_aload_n hx hb dX_mayFollow_29 rfl (lv_at hl 0 rfl) ?_
    refine va_get (D := (dC, dI)) (ci := 0) (v := .int (f 3)) (C := "EventPatterns") (T := TX) (N := 16) hx hb hbw inX hown hK hP 0 rfl rfl 10 (by decide) (hbw _ kf_X_53) (fun _ h9 => h9) rfl dX_mayFollow_30 ?_
    refine lv_icmp_gt (tgt := 40) hx hb dX_mayFollow_33 (by decide) (fun c_33 => ?_) (fun c_33 => ?_)
    · refine lv_iconst (v := 0) hx hb dX_mayFollow_40 (by decide) ?_
      exact W.zret (v := 0) hx hb hr rfl (fun t ht hW => ⟨0, rfl, by first | (simp [xMay, bI, *]; done) | (subst_vars; simp [xMay, bI, *]; done) | (subst_vars; simp_all [xMay, bI]; done), ht⟩) (fun q h => by cases h) dX_mayFollow_41
    · refine lv_iconst (v := 1) hx hb dX_mayFollow_36 (by decide) ?_
      refine lv_goto (tgt := 41) hx hb dX_mayFollow_37 (by decide) ?_
      exact W.zret (v := 1) hx hb hr rfl (fun t ht hW => ⟨1, rfl, by first | (simp [xMay, bI, *]; done) | (subst_vars; simp [xMay, bI, *]; done) | (subst_vars; simp_all [xMay, bI]; done), ht⟩) (fun q h => by cases h) dX_mayFollow_41
  · refine lv_iload_n hx hb dX_mayFollow_7 rfl (lv_at hl 3 rfl) ?_
    refine lv_iload_n hx hb dX_mayFollow_8 rfl (lv_at hl 2 rfl) ?_
    refine lv_iconst (v := 1) hx hb dX_mayFollow_9 (by decide) ?_
    refine nr_iadd hx hb (a1 := pl) (b1 := 1) dX_mayFollow_10 ?_
    refine nr_icmp_eq (tgt := 16) hx hb (a1 := nx) (b1 := pl + 1) (by omega) (by omega) dX_mayFollow_11 (by decide) (fun c_11 => ?_) (fun c_11 => ?_)
    · refine lv_aload_n hx hb dX_mayFollow_16 rfl (lv_at hl 0 rfl) ?_
      refine va_get (D := (dC, dI)) (ci := 0) (v := .ref (q 1)) (C := "EventPatterns") (T := TX) (N := 16) hx hb hbw inX hown hK hP 0 rfl rfl 0 (by decide) (hbw _ kf_X_9) (fun _ h9 => h9) rfl dX_mayFollow_17 ?_
      refine lv_iload_n hx hb dX_mayFollow_20 rfl (lv_at hl 3 rfl) ?_
      refine nr_iald hx hb hK hP 1 0 rfl rfl (j := nx) (by omega) (by decide) dX_mayFollow_21 ?_
      refine lv_aload_n hx hb dX_mayFollow_22 rfl (lv_at hl 0 rfl) ?_
      refine va_get (D := (dC, dI)) (ci := 0) (v := .ref (q 1)) (C := "EventPatterns") (T := TX) (N := 16) hx hb hbw inX hown hK hP 0 rfl rfl 0 (by decide) (hbw _ kf_X_9) (fun _ h9 => h9) rfl dX_mayFollow_23 ?_
      refine lv_iload_n hx hb dX_mayFollow_26 rfl (lv_at hl 1 rfl) ?_
      refine nr_iald hx hb hK hP 1 0 rfl rfl (j := fi) (by omega) (by decide) dX_mayFollow_27 ?_
      refine lv_isub hx hb dX_mayFollow_28 ?_
      refine lv_aload_n hx hb dX_mayFollow_29 rfl (lv_at hl 0 rfl) ?_
      refine va_get (D := (dC, dI)) (ci := 0) (v := .int (f 3)) (C := "EventPatterns") (T := TX) (N := 16) hx hb hbw inX hown hK hP 0 rfl rfl 10 (by decide) (hbw _ kf_X_53) (fun _ h9 => h9) rfl dX_mayFollow_30 ?_
      refine lv_icmp_gt (tgt := 40) hx hb dX_mayFollow_33 (by decide) (fun c_33 => ?_) (fun c_33 => ?_)
      · refine lv_iconst (v := 0) hx hb dX_mayFollow_40 (by decide) ?_
        exact W.zret (v := 0) hx hb hr rfl (fun t ht hW => ⟨0, rfl, by first | (simp [xMay, bI, *]; done) | (subst_vars; simp [xMay, bI, *]; done) | (subst_vars; simp_all [xMay, bI]; done), ht⟩) (fun q h => by cases h) dX_mayFollow_41
      · refine lv_iconst (v := 1) hx hb dX_mayFollow_36 (by decide) ?_
        refine lv_goto (tgt := 41) hx hb dX_mayFollow_37 (by decide) ?_
        exact W.zret (v := 1) hx hb hr rfl (fun t ht hW => ⟨1, rfl, by first | (simp [xMay, bI, *]; done) | (subst_vars; simp [xMay, bI, *]; done) | (subst_vars; simp_all [xMay, bI]; done), ht⟩) (fun q h => by cases h) dX_mayFollow_41
    · refine lv_iconst (v := 0) hx hb dX_mayFollow_14 (by decide) ?_
      exact W.zret (v := 0) hx hb hr rfl (fun t ht hW => ⟨0, rfl, by first | (simp [xMay, bI, *]; done) | (subst_vars; simp [xMay, bI, *]; done) | (subst_vars; simp_all [xMay, bI]; done), ht⟩) (fun q h => by cases h) dX_mayFollow_15
set_option maxHeartbeats 4000000 in
set_option maxRecDepth 100000 in
/-- fits(place, step, ahead, first) -/
theorem tX_fits (l : Launch) (dC : Nat → ClassId) (dI : Nat → Nat → Nat) (q : Nat → Nat) (cI cZ cG : ClassId) (a : Nat → Nat → Int32) (f : Nat → Int32) (w : Nat → Nat → Int32) (pl st ah fi : Nat) (h1 : pl < 16) (h2 : st < 5) (h3 : ah < 16) (h4 : fi < 16) : Met l yX_fits wX_fits ({ frames := 0, cells := 0, slots := 0, locals := 0 }) (va_Pc [.ref (q 0), .int (nI (pl)), .int (nI (st)), .int (nI (ah)), .int (nI (fi))] (fun U => va_P (dC, dI) cls2 (xw q cI cZ cG a f w) U.heap ∧ va_K (dC, dI) cls2 (xt cI cZ cG) U)) (vp_Si (fun r0 => r0 = bI (xFit a pl st ah fi))) 0 0 (fun _ => False) := by
  refine Met.ofW (cc := cX_fits) (maxL := 6) (ret := (some .boolean)) (by decide) rfl ?_
  intro p e s m args below meth c s₁ B hml hv
  obtain ⟨rfl, hP, hK⟩ := hv
  have hx := B.exec
  have hb := B.bytes
  have hr := B.returns
  have hbw : ∀ w ∈ bw, w.before _ s = true := fun w h => atoms_spec (ws := wX_fits) B.pre w (List.mem_cons_of_mem _ h)
  have hown : s.vm.findClass "EventPatterns" = some m.cls := findClass_of_methodNamed B.named
  have hlocks := B.notSynchronized
  have hl := lv_entry ([.ref (q 0), .int (nI (pl)), .int (nI (st)), .int (nI (ah)), .int (nI (fi))]) (n := 6) (Nat.le_of_ble_eq_true rfl)
  rw [lg_entry_eq]
  generalize (lg_sl ([.ref (q 0), .int (nI (pl)), .int (nI (st)), .int (nI (ah)), .int (nI (fi))]) ++ List.replicate (6 - (lg_sl ([.ref (q 0), .int (nI (pl)), .int (nI (st)), .int (nI (ah)), .int (nI (fi))])).length) Slot.unset).toArray = ls at hl ⊢
  have hl : lv_has ls 6 [(0, .ref (q 0)), (1, .int (nI (pl))), (2, .int (nI (st))), (3, .int (nI (ah))), (4, .int (nI (fi)))] := hl
  refine lv_aload_n hx hb dX_fits_0 rfl (lv_at hl 0 rfl) ?_
  refine va_get (D := (dC, dI)) (ci := 0) (v := .ref (q 4)) (C := "EventPatterns") (T := TX) (N := 16) hx hb hbw inX hown hK hP 0 rfl rfl 5 (by decide) (hbw _ kf_X_19) (fun _ h9 => h9) rfl dX_fits_1 ?_
  refine lv_iload_n hx hb dX_fits_4 rfl (lv_at hl 2 rfl) ?_
  refine nr_iald hx hb hK hP 4 0 rfl rfl (j := st) (by omega) (by decide) dX_fits_5 ?_
  refine lv_aload_n hx hb dX_fits_6 rfl (lv_at hl 0 rfl) ?_
  refine va_get (D := (dC, dI)) (ci := 0) (v := .ref (q 2)) (C := "EventPatterns") (T := TX) (N := 16) hx hb hbw inX hown hK hP 0 rfl rfl 1 (by decide) (hbw _ kf_X_13) (fun _ h9 => h9) rfl dX_fits_7 ?_
  refine lv_iload_n hx hb dX_fits_10 rfl (lv_at hl 1 rfl) ?_
  refine nr_iald hx hb hK hP 2 0 rfl rfl (j := pl) (by omega) (by decide) dX_fits_11 ?_
  refine lv_ishr hx hb dX_fits_12 ?_
  refine lv_iconst (v := 1) hx hb dX_fits_13 (by decide) ?_
  refine lv_iand hx hb dX_fits_14 ?_
  refine lv_if_ne (tgt := 20) hx hb dX_fits_15 (by decide) (fun c_15 => ?_) (fun c_15 => ?_)
  · refine lv_aload_n hx hb dX_fits_20 rfl (lv_at hl 0 rfl) ?_
    refine va_get (D := (dC, dI)) (ci := 0) (v := .ref (q 3)) (C := "EventPatterns") (T := TX) (N := 16) hx hb hbw inX hown hK hP 0 rfl rfl 2 (by decide) (hbw _ kf_X_16) (fun _ h9 => h9) rfl dX_fits_21 ?_
    refine lv_iload_n hx hb dX_fits_24 rfl (lv_at hl 1 rfl) ?_
    refine nr_iald hx hb hK hP 3 0 rfl rfl (j := pl) (by omega) (by decide) dX_fits_25 ?_
    refine lv_istore (lv' := [(5, .int ((a 2) (pl))), (0, .ref (q 0)), (1, .int (nI (pl))), (2, .int (nI (st))), (3, .int (nI (ah))), (4, .int (nI (fi)))]) hx hb dX_fits_26 hl (by decide) rfl (fun ls hl => ?_)
    refine lv_aload_n hx hb dX_fits_28 rfl (lv_at hl 1 rfl) ?_
    refine va_get (D := (dC, dI)) (ci := 0) (v := .ref (q 5)) (C := "EventPatterns") (T := TX) (N := 16) hx hb hbw inX hown hK hP 0 rfl rfl 6 (by decide) (hbw _ kf_X_22) (fun _ h9 => h9) rfl dX_fits_29 ?_
    refine lv_iload_n hx hb dX_fits_32 rfl (lv_at hl 3 rfl) ?_
    refine nr_iald hx hb hK hP 5 0 rfl rfl (j := st) (by omega) (by decide) dX_fits_33 ?_
    by_cases t1 : (a 4) (st) = 1
    · refine lv_tableIn (off := 30) (tgt := 64) hx hb dX_fits_34 (by rw [t1]; decide) (by rw [t1]; decide) (by rw [t1]; decide) (by decide) ?_
      refine lv_iload_n hx hb dX_fits_64 rfl (lv_at hl 2 rfl) ?_
      refine lv_iload hx hb dX_fits_65 (lv_at hl 5 rfl) ?_
      refine nr_icmp_eq (tgt := 81) hx hb (a1 := pl) (b1 := fi) (by omega) (by omega) dX_fits_67 (by decide) (fun c_67 => ?_) (fun c_67 => ?_)
      · refine lv_iconst (v := 1) hx hb dX_fits_81 (by decide) ?_
        refine lv_goto (tgt := 86) hx hb dX_fits_82 (by decide) ?_
        exact W.zret (v := 1) hx hb hr rfl (fun t ht hW => ⟨1, rfl, by first | (simp [xFit, bI, *]; done) | (subst_vars; simp [xFit, bI, *]; done) | (subst_vars; simp_all [xFit, bI]; done), ht⟩) (fun q h => by cases h) dX_fits_86
      · refine lv_iload hx hb dX_fits_70 (lv_at hl 0 rfl) ?_
        refine lv_aload_n hx hb dX_fits_72 rfl (lv_at hl 1 rfl) ?_
        refine va_get (D := (dC, dI)) (ci := 0) (v := .ref (q 3)) (C := "EventPatterns") (T := TX) (N := 16) hx hb hbw inX hown hK hP 0 rfl rfl 2 (by decide) (hbw _ kf_X_16) (fun _ h9 => h9) rfl dX_fits_73 ?_
        refine lv_iload_n hx hb dX_fits_76 rfl (lv_at hl 4 rfl) ?_
        refine nr_iald hx hb hK hP 3 0 rfl rfl (j := ah) (by omega) (by decide) dX_fits_77 ?_
        refine lv_icmp_le (tgt := 85) hx hb dX_fits_78 (by decide) (fun c_78 => ?_) (fun c_78 => ?_)
        · refine lv_iconst (v := 0) hx hb dX_fits_85 (by decide) ?_
          exact W.zret (v := 0) hx hb hr rfl (fun t ht hW => ⟨0, rfl, by first | (simp [xFit, bI, *]; done) | (subst_vars; simp [xFit, bI, *]; done) | (subst_vars; simp_all [xFit, bI]; done), ht⟩) (fun q h => by cases h) dX_fits_86
        · refine lv_iconst (v := 1) hx hb dX_fits_81 (by decide) ?_
          refine lv_goto (tgt := 86) hx hb dX_fits_82 (by decide) ?_
          exact W.zret (v := 1) hx hb hr rfl (fun t ht hW => ⟨1, rfl, by first | (simp [xFit, bI, *]; done) | (subst_vars; simp [xFit, bI, *]; done) | (subst_vars; simp_all [xFit, bI]; done), ht⟩) (fun q h => by cases h) dX_fits_86
    by_cases t2 : (a 4) (st) = 2
    · refine lv_tableIn (off := 53) (tgt := 87) hx hb dX_fits_34 (by rw [t2]; decide) (by rw [t2]; decide) (by rw [t2]; decide) (by decide) ?_
      refine lv_iload_n hx hb dX_fits_87 rfl (lv_at hl 2 rfl) ?_
      refine lv_iload hx hb dX_fits_88 (lv_at hl 5 rfl) ?_
      refine nr_icmp_eq (tgt := 104) hx hb (a1 := pl) (b1 := fi) (by omega) (by omega) dX_fits_90 (by decide) (fun c_90 => ?_) (fun c_90 => ?_)
      · refine lv_iconst (v := 1) hx hb dX_fits_104 (by decide) ?_
        refine lv_goto (tgt := 109) hx hb dX_fits_105 (by decide) ?_
        exact W.zret (v := 1) hx hb hr rfl (fun t ht hW => ⟨1, rfl, by first | (simp [xFit, bI, *]; done) | (subst_vars; simp [xFit, bI, *]; done) | (subst_vars; simp_all [xFit, bI]; done), ht⟩) (fun q h => by cases h) dX_fits_109
      · refine lv_iload hx hb dX_fits_93 (lv_at hl 0 rfl) ?_
        refine lv_aload_n hx hb dX_fits_95 rfl (lv_at hl 1 rfl) ?_
        refine va_get (D := (dC, dI)) (ci := 0) (v := .ref (q 3)) (C := "EventPatterns") (T := TX) (N := 16) hx hb hbw inX hown hK hP 0 rfl rfl 2 (by decide) (hbw _ kf_X_16) (fun _ h9 => h9) rfl dX_fits_96 ?_
        refine lv_iload_n hx hb dX_fits_99 rfl (lv_at hl 4 rfl) ?_
        refine nr_iald hx hb hK hP 3 0 rfl rfl (j := ah) (by omega) (by decide) dX_fits_100 ?_
        refine lv_icmp_ge (tgt := 108) hx hb dX_fits_101 (by decide) (fun c_101 => ?_) (fun c_101 => ?_)
        · refine lv_iconst (v := 0) hx hb dX_fits_108 (by decide) ?_
          exact W.zret (v := 0) hx hb hr rfl (fun t ht hW => ⟨0, rfl, by first | (simp [xFit, bI, *]; done) | (subst_vars; simp [xFit, bI, *]; done) | (subst_vars; simp_all [xFit, bI]; done), ht⟩) (fun q h => by cases h) dX_fits_109
        · refine lv_iconst (v := 1) hx hb dX_fits_104 (by decide) ?_
          refine lv_goto (tgt := 109) hx hb dX_fits_105 (by decide) ?_
          exact W.zret (v := 1) hx hb hr rfl (fun t ht hW => ⟨1, rfl, by first | (simp [xFit, bI, *]; done) | (subst_vars; simp [xFit, bI, *]; done) | (subst_vars; simp_all [xFit, bI]; done), ht⟩) (fun q h => by cases h) dX_fits_109
    by_cases t3 : (a 4) (st) = 3
    · refine lv_tableIn (off := 76) (tgt := 110) hx hb dX_fits_34 (by rw [t3]; decide) (by rw [t3]; decide) (by rw [t3]; decide) (by decide) ?_
      refine lv_iload hx hb dX_fits_110 (lv_at hl 0 rfl) ?_
      refine lv_aload_n hx hb dX_fits_112 rfl (lv_at hl 1 rfl) ?_
      refine va_get (D := (dC, dI)) (ci := 0) (v := .ref (q 3)) (C := "EventPatterns") (T := TX) (N := 16) hx hb hbw inX hown hK hP 0 rfl rfl 2 (by decide) (hbw _ kf_X_16) (fun _ h9 => h9) rfl dX_fits_113 ?_
      refine lv_iload hx hb dX_fits_116 (lv_at hl 5 rfl) ?_
      refine nr_iald hx hb hK hP 3 0 rfl rfl (j := fi) (by omega) (by decide) dX_fits_118 ?_
      refine lv_icmp_ne (tgt := 126) hx hb dX_fits_119 (by decide) (fun c_119 => ?_) (fun c_119 => ?_)
      · refine lv_iconst (v := 0) hx hb dX_fits_126 (by decide) ?_
        exact W.zret (v := 0) hx hb hr rfl (fun t ht hW => ⟨0, rfl, by first | (simp [xFit, bI, *]; done) | (subst_vars; simp [xFit, bI, *]; done) | (subst_vars; simp_all [xFit, bI]; done), ht⟩) (fun q h => by cases h) dX_fits_127
      · refine lv_iconst (v := 1) hx hb dX_fits_122 (by decide) ?_
        refine lv_goto (tgt := 127) hx hb dX_fits_123 (by decide) ?_
        exact W.zret (v := 1) hx hb hr rfl (fun t ht hW => ⟨1, rfl, by first | (simp [xFit, bI, *]; done) | (subst_vars; simp [xFit, bI, *]; done) | (subst_vars; simp_all [xFit, bI]; done), ht⟩) (fun q h => by cases h) dX_fits_127
    by_cases t4 : (a 4) (st) = 4
    · refine lv_tableIn (off := 94) (tgt := 128) hx hb dX_fits_34 (by rw [t4]; decide) (by rw [t4]; decide) (by rw [t4]; decide) (by decide) ?_
      refine lv_iload hx hb dX_fits_128 (lv_at hl 0 rfl) ?_
      refine lv_aload_n hx hb dX_fits_130 rfl (lv_at hl 1 rfl) ?_
      refine va_get (D := (dC, dI)) (ci := 0) (v := .ref (q 6)) (C := "EventPatterns") (T := TX) (N := 16) hx hb hbw inX hown hK hP 0 rfl rfl 7 (by decide) (hbw _ kf_X_25) (fun _ h9 => h9) rfl dX_fits_131 ?_
      refine lv_iload_n hx hb dX_fits_134 rfl (lv_at hl 3 rfl) ?_
      refine nr_iald hx hb hK hP 6 0 rfl rfl (j := st) (by omega) (by decide) dX_fits_135 ?_
      refine lv_icmp_lt (tgt := 143) hx hb dX_fits_136 (by decide) (fun c_136 => ?_) (fun c_136 => ?_)
      · refine lv_iconst (v := 0) hx hb dX_fits_143 (by decide) ?_
        exact W.zret (v := 0) hx hb hr rfl (fun t ht hW => ⟨0, rfl, by first | (simp [xFit, bI, *]; done) | (subst_vars; simp [xFit, bI, *]; done) | (subst_vars; simp_all [xFit, bI]; done), ht⟩) (fun q h => by cases h) dX_fits_144
      · refine lv_iconst (v := 1) hx hb dX_fits_139 (by decide) ?_
        refine lv_goto (tgt := 144) hx hb dX_fits_140 (by decide) ?_
        exact W.zret (v := 1) hx hb hr rfl (fun t ht hW => ⟨1, rfl, by first | (simp [xFit, bI, *]; done) | (subst_vars; simp [xFit, bI, *]; done) | (subst_vars; simp_all [xFit, bI]; done), ht⟩) (fun q h => by cases h) dX_fits_144
    have u1 := lv_neT t1 (show (1 : Int32).toInt = 1 from rfl)
    have u2 := lv_neT t2 (show (2 : Int32).toInt = 2 from rfl)
    have u3 := lv_neT t3 (show (3 : Int32).toInt = 3 from rfl)
    have u4 := lv_neT t4 (show (4 : Int32).toInt = 4 from rfl)
    refine lv_tableOut (tgt := 145) hx hb dX_fits_34 (by omega) (by decide) ?_
    refine lv_iconst (v := 1) hx hb dX_fits_145 (by decide) ?_
    exact W.zret (v := 1) hx hb hr rfl (fun t ht hW => ⟨1, rfl, by first | (simp [xFit, bI, *]; done) | (subst_vars; simp [xFit, bI, *]; done) | (subst_vars; simp_all [xFit, bI]; done), ht⟩) (fun q h => by cases h) dX_fits_146
  · refine lv_iconst (v := 0) hx hb dX_fits_18 (by decide) ?_
    exact W.zret (v := 0) hx hb hr rfl (fun t ht hW => ⟨0, rfl, by first | (simp [xFit, bI, *]; done) | (subst_vars; simp [xFit, bI, *]; done) | (subst_vars; simp_all [xFit, bI]; done), ht⟩) (fun q h => by cases h) dX_fits_19
end
section
/-! THE CLASS: how a match may go on -/
def xOnL (a : Nat → Nat → Int32) (f : Nat → Int32) (w : Nat → Nat → Int32) (n ms fi pl st : Nat) : Nat → Nat → Int32 → Int32
  | 0, _, acc => acc
  | k + 1, nx, acc => if nx < n ∧ xMay a f fi pl nx = true then xOnL a f w n ms fi pl st k (nx + 1) ((acc + xSame a w fi pl st nx) + xNext a w ms fi pl st nx) else acc
theorem xOnL_out {a : Nat → Nat → Int32} {f : Nat → Int32} {w : Nat → Nat → Int32} {n ms fi pl st k nx : Nat} {acc : Int32} (h : ¬ (nx < n ∧ xMay a f fi pl nx = true)) : xOnL a f w n ms fi pl st (k + 1) nx acc = acc := by
  rw [xOnL, if_neg h]
theorem xOnL_in {a : Nat → Nat → Int32} {f : Nat → Int32} {w : Nat → Nat → Int32} {n ms fi pl st k nx : Nat} {acc : Int32} (hk : 1 ≤ k) (h1 : nx < n) (h2 : xMay a f fi pl nx = true) : xOnL a f w n ms fi pl st (k + 1) nx acc = xOnL a f w n ms fi pl st (k - 1 + 1) (nx + 1) ((acc + xSame a w fi pl st nx) + xNext a w ms fi pl st nx) := by
  rw [xOnL, if_pos ⟨h1, h2⟩, show k - 1 + 1 = k by omega]
def xOn (a : Nat → Nat → Int32) (f : Nat → Int32) (w : Nat → Nat → Int32) (n ms fi pl st : Nat) (lo : Int32) : Int32 := xOnL a f w n ms fi pl st (n + 1) (pl + 1) (bI (decide (st + 1 = ms) && !decide (nI pl < lo)))
set_option maxHeartbeats 4000000 in
set_option maxRecDepth 100000 in
/-- waysBySameStep(first, place, step, next) -/
theorem tX_waysBySameStep (l : Launch) (dC : Nat → ClassId) (dI : Nat → Nat → Nat) (q : Nat → Nat) (cI cZ cG : ClassId) (a : Nat → Nat → Int32) (f : Nat → Int32) (w : Nat → Nat → Int32) (fi pl st nx : Nat) (h1 : fi < 16) (h2 : pl < 16) (h3 : st < 5) (h4 : nx < 16) : Met l yX_waysBySameStep wX_waysBySameStep ({ frames := 1, cells := 0, slots := 0, locals := 25 }) (va_Pc [.ref (q 0), .int (nI (fi)), .int (nI (pl)), .int (nI (st)), .int (nI (nx))] (fun U => va_P (dC, dI) cls2 (xw q cI cZ cG a f w) U.heap ∧ va_K (dC, dI) cls2 (xt cI cZ cG) U)) (vp_Si (fun r0 => r0 = xSame a w fi pl st nx)) 0 0 (fun _ => False) := by
  refine Met.ofW (cc := cX_waysBySameStep) (maxL := 5) (ret := (some .int)) (by decide) rfl ?_
  intro p e s m args below meth c s₁ B hml hv
  obtain ⟨rfl, hP, hK⟩ := hv
  have hx := B.exec
  have hb := B.bytes
  have hr := B.returns
  have hbw : ∀ w ∈ bw, w.before _ s = true := fun w h => atoms_spec (ws := wX_waysBySameStep) B.pre w (List.mem_cons_of_mem _ h)
  have hown : s.vm.findClass "EventPatterns" = some m.cls := findClass_of_methodNamed B.named
  have hlocks := B.notSynchronized
  have hl := lv_entry ([.ref (q 0), .int (nI (fi)), .int (nI (pl)), .int (nI (st)), .int (nI (nx))]) (n := 5) (Nat.le_of_ble_eq_true rfl)
  rw [lg_entry_eq]
  generalize (lg_sl ([.ref (q 0), .int (nI (fi)), .int (nI (pl)), .int (nI (st)), .int (nI (nx))]) ++ List.replicate (5 - (lg_sl ([.ref (q 0), .int (nI (fi)), .int (nI (pl)), .int (nI (st)), .int (nI (nx))])).length) Slot.unset).toArray = ls at hl ⊢
  have hl : lv_has ls 5 [(0, .ref (q 0)), (1, .int (nI (fi))), (2, .int (nI (pl))), (3, .int (nI (st))), (4, .int (nI (nx)))] := hl
  refine lv_aload_n hx hb dX_waysBySameStep_0 rfl (lv_at hl 0 rfl) ?_
  refine va_get (D := (dC, dI)) (ci := 0) (v := .ref (q 7)) (C := "EventPatterns") (T := TX) (N := 16) hx hb hbw inX hown hK hP 0 rfl rfl 8 (by decide) (hbw _ kf_X_28) (fun _ h9 => h9) rfl dX_waysBySameStep_1 ?_
  refine lv_iload_n hx hb dX_waysBySameStep_4 rfl (lv_at hl 3 rfl) ?_
  refine nr_zald hx hb hK hP 7 1 rfl rfl (j := st) (by omega) (by decide) dX_waysBySameStep_5 ?_
  refine lv_if_eq (tgt := 21) hx hb dX_waysBySameStep_6 (by decide) (fun c_6 => ?_) (fun c_6 => ?_)
  · refine lv_iconst (v := 0) hx hb dX_waysBySameStep_21 (by decide) ?_
    exact W.iret (v := 0) hx hb hr (fun t ht hW => ⟨0, rfl, by first | (simp [xSame, *]; done) | (subst_vars; simp [xSame, *]; done) | (subst_vars; simp_all [xSame]; done), ht⟩) (fun q h => by cases h) dX_waysBySameStep_22
  · refine lv_aload_n hx hb dX_waysBySameStep_9 rfl (lv_at hl 0 rfl) ?_
    refine lv_iload hx hb dX_waysBySameStep_10 (lv_at hl 4 rfl) ?_
    refine lv_iload_n hx hb dX_waysBySameStep_12 rfl (lv_at hl 3 rfl) ?_
    refine lv_iload_n hx hb dX_waysBySameStep_13 rfl (lv_at hl 2 rfl) ?_
    refine lv_iload_n hx hb dX_waysBySameStep_14 rfl (lv_at hl 1 rfl) ?_
    refine vp_callSi (W.runV (As := [.int (nI (nx)), .int (nI (st)), .int (nI (pl)), .int (nI (fi))]) (rest := []) ⟨hx, hb, hml, hown, hbw⟩ (tX_fits l dC dI q cI cZ cG a f w (nx) (st) (pl) (fi) (by omega) (by omega) (by omega) (by omega)) (cwV 4 hbw (bw_V km_X_127 ki_yX_fits ksel_yX_fits ki_EventPatterns kcX_fits) rfl rfl rfl (by decide +kernel) ⟨Nat.le_of_ble_eq_true rfl, Nat.le_of_ble_eq_true rfl⟩) ⟨fun a U g mk q => by obtain ⟨q0, qP, qK⟩ := q; exact ⟨q0, qP, va_K.moved (u := U) (U := U.calling g mk a) (Vm.Alike.refl U.vm) qK⟩, va_recv hK hP (ci := 0) (q0 := 0) rfl rfl, fun U hU hW => ⟨rfl, by rw [hU]; exact hP, va_K.moved hW.alike hK⟩⟩ rfl rfl hl.1 rfl (lv_room (Nat.le_of_ble_eq_true rfl)) dX_waysBySameStep_15 ⟨Nat.le_of_ble_eq_true rfl, Nat.le_of_ble_eq_true rfl⟩) (fun r_15 hq => ?_)
    subst hq
    refine nr_ifb_ne (tgt := 23) hx hb (b := (xFit a (nx) (st) (pl) (fi))) dX_waysBySameStep_18 (by decide) (fun c_18 => ?_) (fun c_18 => ?_)
    · refine lv_aload_n hx hb dX_waysBySameStep_23 rfl (lv_at hl 0 rfl) ?_
      refine va_get (D := (dC, dI)) (ci := 0) (v := .ref (q 8)) (C := "EventPatterns") (T := TX) (N := 16) hx hb hbw inX hown hK hP 0 rfl rfl 12 (by decide) (hbw _ kf_X_34) (fun _ h9 => h9) rfl dX_waysBySameStep_24 ?_
      refine lv_iload hx hb dX_waysBySameStep_27 (lv_at hl 4 rfl) ?_
      refine nr_aald hx hb hK hP 8 2 rfl rfl (j := nx) (by omega) (by decide) dX_waysBySameStep_29 ?_
      refine W.eq (g2 := F0 m 30 ls [.ref (q (11 + (nx)))]) rfl ?_
      refine lv_iload_n hx hb dX_waysBySameStep_30 rfl (lv_at hl 3 rfl) ?_
      refine nr_iald hx hb hK hP (11 + (nx)) 0 (xw_row q cI cZ cG _ _ _ (by omega)) rfl (j := st) (by omega) (by decide) dX_waysBySameStep_31 ?_
      exact W.iret (v := (w (nx)) (st)) hx hb hr (fun t ht hW => ⟨(w (nx)) (st), rfl, by first | (simp [xSame, *]; done) | (subst_vars; simp [xSame, *]; done) | (subst_vars; simp_all [xSame]; done), ht⟩) (fun q h => by cases h) dX_waysBySameStep_32
    · refine lv_iconst (v := 0) hx hb dX_waysBySameStep_21 (by decide) ?_
      exact W.iret (v := 0) hx hb hr (fun t ht hW => ⟨0, rfl, by first | (simp [xSame, *]; done) | (subst_vars; simp [xSame, *]; done) | (subst_vars; simp_all [xSame]; done), ht⟩) (fun q h => by cases h) dX_waysBySameStep_22
set_option maxHeartbeats 4000000 in
set_option maxRecDepth 100000 in
/-- waysByNextStep(first, place, step, next) -/
theorem tX_waysByNextStep (l : Launch) (dC : Nat → ClassId) (dI : Nat → Nat → Nat) (q : Nat → Nat) (cI cZ cG : ClassId) (a : Nat → Nat → Int32) (f : Nat → Int32) (w : Nat → Nat → Int32) (ms fi pl st nx : Nat) (h0 : 1 ≤ ms) (hm : ms ≤ 5) (hf4 : f 4 = nI ms) (h1 : fi < 16) (h2 : pl < 16) (h3 : st < ms) (h4 : nx < 16) : Met l yX_waysByNextStep wX_waysByNextStep ({ frames := 1, cells := 0, slots := 0, locals := 25 }) (va_Pc [.ref (q 0), .int (nI (fi)), .int (nI (pl)), .int (nI (st)), .int (nI (nx))] (fun U => va_P (dC, dI) cls2 (xw q cI cZ cG a f w) U.heap ∧ va_K (dC, dI) cls2 (xt cI cZ cG) U)) (vp_Si (fun r0 => r0 = xNext a w ms fi pl st nx)) 0 0 (fun _ => False) := by
  refine Met.ofW (cc := cX_waysByNextStep) (maxL := 5) (ret := (some .int)) (by decide) rfl ?_
  intro p e s m args below meth c s₁ B hml hv
  obtain ⟨rfl, hP, hK⟩ := hv
  have hx := B.exec
  have hb := B.bytes
  have hr := B.returns
  have hbw : ∀ w ∈ bw, w.before _ s = true := fun w h => atoms_spec (ws := wX_waysByNextStep) B.pre w (List.mem_cons_of_mem _ h)
  have hown : s.vm.findClass "EventPatterns" = some m.cls := findClass_of_methodNamed B.named
  have hlocks := B.notSynchronized
  have hl := lv_entry ([.ref (q 0), .int (nI (fi)), .int (nI (pl)), .int (nI (st)), .int (nI (nx))]) (n := 5) (Nat.le_of_ble_eq_true rfl)
  rw [lg_entry_eq]
  generalize (lg_sl ([.ref (q 0), .int (nI (fi)), .int (nI (pl)), .int (nI (st)), .int (nI (nx))]) ++ List.replicate (5 - (lg_sl ([.ref (q 0), .int (nI (fi)), .int (nI (pl)), .int (nI (st)), .int (nI (nx))])).length) Slot.unset).toArray = ls at hl ⊢
  have hl : lv_has ls 5 [(0, .ref (q 0)), (1, .int (nI (fi))), (2, .int (nI (pl))), (3, .int (nI (st))), (4, .int (nI (nx)))] := hl
  refine lv_aload_n hx hb dX_waysByNextStep_0 rfl (lv_at hl 0 rfl) ?_
  refine lv_iload_n hx hb dX_waysByNextStep_1 rfl (lv_at hl 3 rfl) ?_
  refine vp_callSi (W.runV (As := [.int (nI (st))]) (rest := []) ⟨hx, hb, hml, hown, hbw⟩ (tX_isLastStep l dC dI q cI cZ cG a f w ms (st) h0 hm hf4 (by omega)) (cwV 1 hbw (bw_V km_X_135 ki_yX_isLastStep ksel_yX_isLastStep ki_EventPatterns kcX_isLastStep) rfl rfl rfl (by decide +kernel) ⟨Nat.le_of_ble_eq_true rfl, Nat.le_of_ble_eq_true rfl⟩) ⟨fun a U g mk q => by obtain ⟨q0, qP, qK⟩ := q; exact ⟨q0, qP, va_K.moved (u := U) (U := U.calling g mk a) (Vm.Alike.refl U.vm) qK⟩, va_recv hK hP (ci := 0) (q0 := 0) rfl rfl, fun U hU hW => ⟨rfl, by rw [hU]; exact hP, va_K.moved hW.alike hK⟩⟩ rfl rfl hl.1 rfl (lv_room (Nat.le_of_ble_eq_true rfl)) dX_waysByNextStep_2 ⟨Nat.le_of_ble_eq_true rfl, Nat.le_of_ble_eq_true rfl⟩) (fun r_2 hq => ?_)
  subst hq
  refine nr_ifb_ne (tgt := 22) hx hb (b := (decide ((st) + 1 = ms))) dX_waysByNextStep_5 (by decide) (fun c_5 => ?_) (fun c_5 => ?_)
  · refine lv_iconst (v := 0) hx hb dX_waysByNextStep_22 (by decide) ?_
    exact W.iret (v := 0) hx hb hr (fun t ht hW => ⟨0, rfl, by first | (simp [xNext, *]; done) | (subst_vars; simp [xNext, *]; done) | (subst_vars; simp_all [xNext]; done), ht⟩) (fun q h => by cases h) dX_waysByNextStep_23
  · have hst : st + 1 < 5 := by have := of_decide_eq_false c_5; omega
    refine lv_aload_n hx hb dX_waysByNextStep_8 rfl (lv_at hl 0 rfl) ?_
    refine lv_iload hx hb dX_waysByNextStep_9 (lv_at hl 4 rfl) ?_
    refine lv_iload_n hx hb dX_waysByNextStep_11 rfl (lv_at hl 3 rfl) ?_
    refine lv_iconst (v := 1) hx hb dX_waysByNextStep_12 (by decide) ?_
    refine nr_iadd hx hb (a1 := st) (b1 := 1) dX_waysByNextStep_13 ?_
    refine lv_iload_n hx hb dX_waysByNextStep_14 rfl (lv_at hl 2 rfl) ?_
    refine lv_iload_n hx hb dX_waysByNextStep_15 rfl (lv_at hl 1 rfl) ?_
    refine vp_callSi (W.runV (As := [.int (nI (nx)), .int (nI (st + 1)), .int (nI (pl)), .int (nI (fi))]) (rest := []) ⟨hx, hb, hml, hown, hbw⟩ (tX_fits l dC dI q cI cZ cG a f w (nx) (st + 1) (pl) (fi) (by omega) (by omega) (by omega) (by omega)) (cwV 4 hbw (bw_V km_X_127 ki_yX_fits ksel_yX_fits ki_EventPatterns kcX_fits) rfl rfl rfl (by decide +kernel) ⟨Nat.le_of_ble_eq_true rfl, Nat.le_of_ble_eq_true rfl⟩) ⟨fun a U g mk q => by obtain ⟨q0, qP, qK⟩ := q; exact ⟨q0, qP, va_K.moved (u := U) (U := U.calling g mk a) (Vm.Alike.refl U.vm) qK⟩, va_recv hK hP (ci := 0) (q0 := 0) rfl rfl, fun U hU hW => ⟨rfl, by rw [hU]; exact hP, va_K.moved hW.alike hK⟩⟩ rfl rfl hl.1 rfl (lv_room (Nat.le_of_ble_eq_true rfl)) dX_waysByNextStep_16 ⟨Nat.le_of_ble_eq_true rfl, Nat.le_of_ble_eq_true rfl⟩) (fun r_16 hq => ?_)
    subst hq
    refine nr_ifb_ne (tgt := 24) hx hb (b := (xFit a (nx) (st + 1) (pl) (fi))) dX_waysByNextStep_19 (by decide) (fun c_19 => ?_) (fun c_19 => ?_)
    · refine lv_aload_n hx hb dX_waysByNextStep_24 rfl (lv_at hl 0 rfl) ?_
      refine va_get (D := (dC, dI)) (ci := 0) (v := .ref (q 8)) (C := "EventPatterns") (T := TX) (N := 16) hx hb hbw inX hown hK hP 0 rfl rfl 12 (by decide) (hbw _ kf_X_34) (fun _ h9 => h9) rfl dX_waysByNextStep_25 ?_
      refine lv_iload hx hb dX_waysByNextStep_28 (lv_at hl 4 rfl) ?_
      refine nr_aald hx hb hK hP 8 2 rfl rfl (j := nx) (by omega) (by decide) dX_waysByNextStep_30 ?_
      refine W.eq (g2 := F0 m 31 ls [.ref (q (11 + (nx)))]) rfl ?_
      refine lv_iload_n hx hb dX_waysByNextStep_31 rfl (lv_at hl 3 rfl) ?_
      refine lv_iconst (v := 1) hx hb dX_waysByNextStep_32 (by decide) ?_
      refine nr_iadd hx hb (a1 := st) (b1 := 1) dX_waysByNextStep_33 ?_
      refine nr_iald hx hb hK hP (11 + (nx)) 0 (xw_row q cI cZ cG _ _ _ (by omega)) rfl (j := st + 1) (by omega) (by decide) dX_waysByNextStep_34 ?_
      exact W.iret (v := (w (nx)) (st + 1)) hx hb hr (fun t ht hW => ⟨(w (nx)) (st + 1), rfl, by first | (simp [xNext, *]; done) | (subst_vars; simp [xNext, *]; done) | (subst_vars; simp_all [xNext]; done), ht⟩) (fun q h => by cases h) dX_waysByNextStep_35
    · refine lv_iconst (v := 0) hx hb dX_waysByNextStep_22 (by decide) ?_
      exact W.iret (v := 0) hx hb hr (fun t ht hW => ⟨0, rfl, by first | (simp [xNext, *]; done) | (subst_vars; simp [xNext, *]; done) | (subst_vars; simp_all [xNext]; done), ht⟩) (fun q h => by cases h) dX_waysByNextStep_23
set_option maxHeartbeats 4000000 in
set_option maxRecDepth 100000 in
theorem lX_waysOn (l : Launch) (dC : Nat → ClassId) (dI : Nat → Nat → Nat) (q : Nat → Nat) (cI cZ cG : ClassId) (a : Nat → Nat → Int32) (f : Nat → Int32) (w : Nat → Nat → Int32) {p : Program} {e : Env} {s : State} {m : MethodId} {args : Array Value} {below : List Frame} {meth : Method} {c : Code} {H : Heap} {locs : List Loc} {cells slots : Nat} {Q : State → Prop} (n ms fi pl st : Nat) (lo : Int32) (hn : n ≤ 16) (hf1 : f 1 = nI n) (h0 : 1 ≤ ms) (hm : ms ≤ 5) (hf4 : f 4 = nI ms) (h1 : fi < 16) (h2 : pl < 16) (h3 : st < ms)
    (hcs : cells ≤ 0 ∧ slots ≤ 0) (hx : p.tables.exec = Jvm.exec) (hb : c.code = cX_waysOn) (hml : c.maxLocals = 7) (hown : s.vm.findClass "EventPatterns" = some m.cls) (hbw : ∀ w ∈ bw, w.before args s = true) (hP : va_P (dC, dI) cls2 (xw q cI cZ cG a f w) H) (hK : va_K (dC, dI) cls2 (xt cI cZ cG) s) :
    ∀ (k nx : Nat) (acc : Int32) (ls : Array Slot), n ≤ nx + k → lv_has ls 7 [(6, .int (nI nx)), (5, .int acc), (0, .ref (q 0)), (1, .int (nI fi)), (2, .int (nI pl)), (3, .int (nI st)), (4, .int lo)] → nx ≤ 16 →
      (∀ ls : Array Slot, lv_has ls 7 [(5, .int (xOnL a f w n ms fi pl st (k + 1) nx acc)), (0, .ref (q 0)), (1, .int (nI fi)), (2, .int (nI pl)), (3, .int (nI st)), (4, .int lo)] → W p l e ({ frames := 2, cells := 0, slots := 0, locals := 49 }) s m args below meth c H locs cells slots Q (F0 m 80 ls [])) → W p l e ({ frames := 2, cells := 0, slots := 0, locals := 49 }) s m args below meth c H locs cells slots Q (F0 m 26 ls []) := by
  intro k
  induction k using Nat.strongRecOn with
  | ind k ih =>
    intro nx acc ls hk hl hnx kk
    refine lv_iload hx hb dX_waysOn_26 (lv_at hl 0 rfl) ?_
    refine lv_aload_n hx hb dX_waysOn_28 rfl (lv_at hl 2 rfl) ?_
    refine va_get (D := (dC, dI)) (ci := 0) (v := .int (nI (n))) (C := "EventPatterns") (T := TX) (N := 16) hx hb hbw inX hown hK hP 0 rfl rfl 4 (by decide) (hbw _ kf_X_47) (fun _ h9 => h9) (congrArg (fun z => some (Value.int z)) (hf1)) dX_waysOn_29 ?_
    refine nr_icmp_ge (tgt := 80) hx hb (a1 := nx) (b1 := n) (by omega) (by omega) dX_waysOn_32 (by decide) (fun c_32 => ?_) (fun c_32 => ?_)
    · refine kk ls ?_
      rw [xOnL_out (by first | omega | (rintro ⟨u1, u2⟩; first | omega | (rw [u2] at c_43; cases c_43)))]
      exact lv_sub hl [1, 2, 3, 4, 5, 6] rfl
    · refine lv_aload_n hx hb dX_waysOn_35 rfl (lv_at hl 2 rfl) ?_
      refine lv_iload_n hx hb dX_waysOn_36 rfl (lv_at hl 3 rfl) ?_
      refine lv_iload_n hx hb dX_waysOn_37 rfl (lv_at hl 4 rfl) ?_
      refine lv_iload hx hb dX_waysOn_38 (lv_at hl 0 rfl) ?_
      refine vp_callSi (W.runV (As := [.int (nI (fi)), .int (nI (pl)), .int (nI (nx))]) (rest := []) ⟨hx, hb, hml, hown, hbw⟩ (tX_mayFollow l dC dI q cI cZ cG a f w (fi) (pl) (nx) (by omega) (by omega) (by omega)) (cwV 3 hbw (bw_V km_X_138 ki_yX_mayFollow ksel_yX_mayFollow ki_EventPatterns kcX_mayFollow) rfl rfl rfl (by decide +kernel) ⟨Nat.le_of_ble_eq_true rfl, Nat.le_of_ble_eq_true rfl⟩) ⟨fun a U g mk q => by obtain ⟨q0, qP, qK⟩ := q; exact ⟨q0, qP, va_K.moved (u := U) (U := U.calling g mk a) (Vm.Alike.refl U.vm) qK⟩, va_recv hK hP (ci := 0) (q0 := 0) rfl rfl, fun U hU hW => ⟨rfl, by rw [hU]; exact hP, va_K.moved hW.alike hK⟩⟩ rfl rfl hl.1 rfl (lv_room (Nat.le_of_ble_eq_true rfl)) dX_waysOn_40 ⟨hcs.1, hcs.2⟩) (fun r_40 hq => ?_)
      subst hq
      refine nr_ifb_eq (tgt := 80) hx hb (b := (xMay a f (fi) (pl) (nx))) dX_waysOn_43 (by decide) (fun c_43 => ?_) (fun c_43 => ?_)
      · refine kk ls ?_
        rw [xOnL_out (by first | omega | (rintro ⟨u1, u2⟩; first | omega | (rw [u2] at c_43; cases c_43)))]
        exact lv_sub hl [1, 2, 3, 4, 5, 6] rfl
      · refine lv_iload hx hb dX_waysOn_46 (lv_at hl 1 rfl) ?_
        refine lv_aload_n hx hb dX_waysOn_48 rfl (lv_at hl 2 rfl) ?_
        refine lv_iload_n hx hb dX_waysOn_49 rfl (lv_at hl 3 rfl) ?_
        refine lv_iload_n hx hb dX_waysOn_50 rfl (lv_at hl 4 rfl) ?_
        refine lv_iload_n hx hb dX_waysOn_51 rfl (lv_at hl 5 rfl) ?_
        refine lv_iload hx hb dX_waysOn_52 (lv_at hl 0 rfl) ?_
        refine vp_callSi (W.runV (As := [.int (nI (fi)), .int (nI (pl)), .int (nI (st)), .int (nI (nx))]) (rest := [.int (acc)]) ⟨hx, hb, hml, hown, hbw⟩ (tX_waysBySameStep l dC dI q cI cZ cG a f w (fi) (pl) (st) (nx) (by omega) (by omega) (by omega) (by omega)) (cwV 4 hbw (bw_V km_X_142 ki_yX_waysBySameStep ksel_yX_waysBySameStep ki_EventPatterns kcX_waysBySameStep) rfl rfl rfl (by decide +kernel) ⟨Nat.le_of_ble_eq_true rfl, Nat.le_of_ble_eq_true rfl⟩) ⟨fun a U g mk q => by obtain ⟨q0, qP, qK⟩ := q; exact ⟨q0, qP, va_K.moved (u := U) (U := U.calling g mk a) (Vm.Alike.refl U.vm) qK⟩, va_recv hK hP (ci := 0) (q0 := 0) rfl rfl, fun U hU hW => ⟨rfl, by rw [hU]; exact hP, va_K.moved hW.alike hK⟩⟩ rfl rfl hl.1 rfl (lv_room (Nat.le_of_ble_eq_true rfl)) dX_waysOn_54 ⟨hcs.1, hcs.2⟩) (fun r_54 hq => ?_)
        subst hq
        refine lv_iadd hx hb dX_waysOn_57 ?_
        refine lv_istore (lv' := [(5, .int ((acc) + (xSame a w (fi) (pl) (st) (nx)))), (6, .int (nI (nx))), (0, .ref (q 0)), (1, .int (nI (fi))), (2, .int (nI (pl))), (3, .int (nI (st))), (4, .int (lo))]) hx hb dX_waysOn_58 hl (by decide) rfl (fun ls hl => ?_)
        refine lv_iload hx hb dX_waysOn_60 (lv_at hl 0 rfl) ?_
        refine lv_aload_n hx hb dX_waysOn_62 rfl (lv_at hl 2 rfl) ?_
        refine lv_iload_n hx hb dX_waysOn_63 rfl (lv_at hl 3 rfl) ?_
        refine lv_iload_n hx hb dX_waysOn_64 rfl (lv_at hl 4 rfl) ?_
        refine lv_iload_n hx hb dX_waysOn_65 rfl (lv_at hl 5 rfl) ?_
        refine lv_iload hx hb dX_waysOn_66 (lv_at hl 1 rfl) ?_
        refine vp_callSi (W.runV (As := [.int (nI (fi)), .int (nI (pl)), .int (nI (st)), .int (nI (nx))]) (rest := [.int ((acc) + (xSame a w (fi) (pl) (st) (nx)))]) ⟨hx, hb, hml, hown, hbw⟩ (tX_waysByNextStep l dC dI q cI cZ cG a f w ms (fi) (pl) (st) (nx) h0 hm hf4 (by omega) (by omega) (by omega) (by omega)) (cwV 4 hbw (bw_V km_X_145 ki_yX_waysByNextStep ksel_yX_waysByNextStep ki_EventPatterns kcX_waysByNextStep) rfl rfl rfl (by decide +kernel) ⟨Nat.le_of_ble_eq_true rfl, Nat.le_of_ble_eq_true rfl⟩) ⟨fun a U g mk q => by obtain ⟨q0, qP, qK⟩ := q; exact ⟨q0, qP, va_K.moved (u := U) (U := U.calling g mk a) (Vm.Alike.refl U.vm) qK⟩, va_recv hK hP (ci := 0) (q0 := 0) rfl rfl, fun U hU hW => ⟨rfl, by rw [hU]; exact hP, va_K.moved hW.alike hK⟩⟩ rfl rfl hl.1 rfl (lv_room (Nat.le_of_ble_eq_true rfl)) dX_waysOn_68 ⟨hcs.1, hcs.2⟩) (fun r_68 hq => ?_)
        subst hq
        refine lv_iadd hx hb dX_waysOn_71 ?_
        refine lv_istore (lv' := [(5, .int (((acc) + (xSame a w (fi) (pl) (st) (nx))) + (xNext a w ms (fi) (pl) (st) (nx)))), (6, .int (nI (nx))), (0, .ref (q 0)), (1, .int (nI (fi))), (2, .int (nI (pl))), (3, .int (nI (st))), (4, .int (lo))]) hx hb dX_waysOn_72 hl (by decide) rfl (fun ls hl => ?_)
        refine lv_iinc (v := nI (nx + 1)) (lv' := [(6, .int (nI (nx + 1))), (5, .int (((acc) + (xSame a w (fi) (pl) (st) (nx))) + (xNext a w ms (fi) (pl) (st) (nx)))), (0, .ref (q 0)), (1, .int (nI (fi))), (2, .int (nI (pl))), (3, .int (nI (st))), (4, .int (lo))]) hx hb dX_waysOn_74 hl (k := 1) rfl (nI_1 _) (by decide) rfl (fun ls hl => ?_)
        refine lv_goto (tgt := 26) hx hb dX_waysOn_77 (by decide) ?_
        exact ih (k - 1) (by omega) (nx + 1) _ ls (by omega) (lv_sub hl [0, 1, 2, 3, 4, 5, 6] rfl) (by omega) (fun ls hl => kk ls (by rw [xOnL_in (by omega) c_32 c_43]; exact hl))
set_option maxHeartbeats 4000000 in
set_option maxRecDepth 100000 in
/-- waysOn(first, place, step, lowestEnd) -/
theorem tX_waysOn (l : Launch) (dC : Nat → ClassId) (dI : Nat → Nat → Nat) (q : Nat → Nat) (cI cZ cG : ClassId) (a : Nat → Nat → Int32) (f : Nat → Int32) (w : Nat → Nat → Int32) (n ms fi pl st : Nat) (lo : Int32) (hn : n ≤ 16) (hf1 : f 1 = nI n) (h0 : 1 ≤ ms) (hm : ms ≤ 5) (hf4 : f 4 = nI ms) (h1 : fi < 16) (h2 : pl < n) (h3 : st < ms) : Met l yX_waysOn wX_waysOn ({ frames := 2, cells := 0, slots := 0, locals := 49 }) (va_Pc [.ref (q 0), .int (nI (fi)), .int (nI (pl)), .int (nI (st)), .int (lo)] (fun U => va_P (dC, dI) cls2 (xw q cI cZ cG a f w) U.heap ∧ va_K (dC, dI) cls2 (xt cI cZ cG) U)) (vp_Si (fun r0 => r0 = xOn a f w n ms fi pl st lo)) 0 0 (fun _ => False) := by
  refine Met.ofW (cc := cX_waysOn) (maxL := 7) (ret := (some .int)) (by decide) rfl ?_
  intro p e s m args below meth c s₁ B hml hv
  obtain ⟨rfl, hP, hK⟩ := hv
  have hx := B.exec
  have hb := B.bytes
  have hr := B.returns
  have hbw : ∀ w ∈ bw, w.before _ s = true := fun w h => atoms_spec (ws := wX_waysOn) B.pre w (List.mem_cons_of_mem _ h)
  have hown : s.vm.findClass "EventPatterns" = some m.cls := findClass_of_methodNamed B.named
  have hlocks := B.notSynchronized
  have hl := lv_entry ([.ref (q 0), .int (nI (fi)), .int (nI (pl)), .int (nI (st)), .int (lo)]) (n := 7) (Nat.le_of_ble_eq_true rfl)
  rw [lg_entry_eq]
  generalize (lg_sl ([.ref (q 0), .int (nI (fi)), .int (nI (pl)), .int (nI (st)), .int (lo)]) ++ List.replicate (7 - (lg_sl ([.ref (q 0), .int (nI (fi)), .int (nI (pl)), .int (nI (st)), .int (lo)])).length) Slot.unset).toArray = ls at hl ⊢
  have hl : lv_has ls 7 [(0, .ref (q 0)), (1, .int (nI (fi))), (2, .int (nI (pl))), (3, .int (nI (st))), (4, .int (lo))] := hl
  refine lv_aload_n hx hb dX_waysOn_0 rfl (lv_at hl 0 rfl) ?_
  refine lv_iload_n hx hb dX_waysOn_1 rfl (lv_at hl 3 rfl) ?_
  refine vp_callSi (W.runV (As := [.int (nI (st))]) (rest := []) ⟨hx, hb, hml, hown, hbw⟩ (tX_isLastStep l dC dI q cI cZ cG a f w ms (st) h0 hm hf4 (by omega)) (cwV 1 hbw (bw_V km_X_135 ki_yX_isLastStep ksel_yX_isLastStep ki_EventPatterns kcX_isLastStep) rfl rfl rfl (by decide +kernel) ⟨Nat.le_of_ble_eq_true rfl, Nat.le_of_ble_eq_true rfl⟩) ⟨fun a U g mk q => by obtain ⟨q0, qP, qK⟩ := q; exact ⟨q0, qP, va_K.moved (u := U) (U := U.calling g mk a) (Vm.Alike.refl U.vm) qK⟩, va_recv hK hP (ci := 0) (q0 := 0) rfl rfl, fun U hU hW => ⟨rfl, by rw [hU]; exact hP, va_K.moved hW.alike hK⟩⟩ rfl rfl hl.1 rfl (lv_room (Nat.le_of_ble_eq_true rfl)) dX_waysOn_2 ⟨Nat.le_of_ble_eq_true rfl, Nat.le_of_ble_eq_true rfl⟩) (fun r_2 hq => ?_)
  subst hq
  refine nr_ifb_eq (tgt := 18) hx hb (b := (decide ((st) + 1 = ms))) dX_waysOn_5 (by decide) (fun c_5 => ?_) (fun c_5 => ?_)
  · refine lv_iconst (v := 0) hx hb dX_waysOn_18 (by decide) ?_
    refine lv_istore (lv' := [(5, .int (0)), (0, .ref (q 0)), (1, .int (nI (fi))), (2, .int (nI (pl))), (3, .int (nI (st))), (4, .int (lo))]) hx hb dX_waysOn_19 hl (by decide) rfl (fun ls hl => ?_)
    refine lv_iload_n hx hb dX_waysOn_21 rfl (lv_at hl 3 rfl) ?_
    refine lv_iconst (v := 1) hx hb dX_waysOn_22 (by decide) ?_
    refine nr_iadd hx hb (a1 := pl) (b1 := 1) dX_waysOn_23 ?_
    refine lv_istore (lv' := [(6, .int (nI (pl + 1))), (5, .int (0)), (0, .ref (q 0)), (1, .int (nI (fi))), (2, .int (nI (pl))), (3, .int (nI (st))), (4, .int (lo))]) hx hb dX_waysOn_24 hl (by decide) rfl (fun ls hl => ?_)
    refine lX_waysOn l dC dI q cI cZ cG a f w n ms fi pl st lo hn hf1 h0 hm hf4 h1 (by omega) h3 ⟨Nat.le_refl _, Nat.le_refl _⟩ hx hb hml hown hbw hP hK n (pl + 1) (0) ls (by omega) (lv_sub hl [0, 1, 2, 3, 4, 5, 6] rfl) (by omega) (fun ls hl => ?_)
    refine lv_iload hx hb dX_waysOn_80 (lv_at hl 0 rfl) ?_
    exact W.iret (v := xOnL a f w n ms fi pl st (n + 1) (pl + 1) (0)) hx hb hr (fun t ht hW => ⟨xOnL a f w n ms fi pl st (n + 1) (pl + 1) (0), rfl, by first | (simp [xOn, bI, *]; done) | (subst_vars; simp [xOn, bI, *]; done) | (subst_vars; simp_all [xOn, bI]; done), ht⟩) (fun q h => by cases h) dX_waysOn_82
  · refine lv_iload_n hx hb dX_waysOn_8 rfl (lv_at hl 2 rfl) ?_
    refine lv_iload hx hb dX_waysOn_9 (lv_at hl 4 rfl) ?_
    refine lv_icmp_lt (tgt := 18) hx hb dX_waysOn_11 (by decide) (fun c_11 => ?_) (fun c_11 => ?_)
    · refine lv_iconst (v := 0) hx hb dX_waysOn_18 (by decide) ?_
      refine lv_istore (lv' := [(5, .int (0)), (0, .ref (q 0)), (1, .int (nI (fi))), (2, .int (nI (pl))), (3, .int (nI (st))), (4, .int (lo))]) hx hb dX_waysOn_19 hl (by decide) rfl (fun ls hl => ?_)
      refine lv_iload_n hx hb dX_waysOn_21 rfl (lv_at hl 3 rfl) ?_
      refine lv_iconst (v := 1) hx hb dX_waysOn_22 (by decide) ?_
      refine nr_iadd hx hb (a1 := pl) (b1 := 1) dX_waysOn_23 ?_
      refine lv_istore (lv' := [(6, .int (nI (pl + 1))), (5, .int (0)), (0, .ref (q 0)), (1, .int (nI (fi))), (2, .int (nI (pl))), (3, .int (nI (st))), (4, .int (lo))]) hx hb dX_waysOn_24 hl (by decide) rfl (fun ls hl => ?_)
      refine lX_waysOn l dC dI q cI cZ cG a f w n ms fi pl st lo hn hf1 h0 hm hf4 h1 (by omega) h3 ⟨Nat.le_refl _, Nat.le_refl _⟩ hx hb hml hown hbw hP hK n (pl + 1) (0) ls (by omega) (lv_sub hl [0, 1, 2, 3, 4, 5, 6] rfl) (by omega) (fun ls hl => ?_)
      refine lv_iload hx hb dX_waysOn_80 (lv_at hl 0 rfl) ?_
      exact W.iret (v := xOnL a f w n ms fi pl st (n + 1) (pl + 1) (0)) hx hb hr (fun t ht hW => ⟨xOnL a f w n ms fi pl st (n + 1) (pl + 1) (0), rfl, by first | (simp [xOn, bI, *]; done) | (subst_vars; simp [xOn, bI, *]; done) | (subst_vars; simp_all [xOn, bI]; done), ht⟩) (fun q h => by cases h) dX_waysOn_82
    · refine lv_iconst (v := 1) hx hb dX_waysOn_14 (by decide) ?_
      refine lv_goto (tgt := 19) hx hb dX_waysOn_15 (by decide) ?_
      refine lv_istore (lv' := [(5, .int (1)), (0, .ref (q 0)), (1, .int (nI (fi))), (2, .int (nI (pl))), (3, .int (nI (st))), (4, .int (lo))]) hx hb dX_waysOn_19 hl (by decide) rfl (fun ls hl => ?_)
      refine lv_iload_n hx hb dX_waysOn_21 rfl (lv_at hl 3 rfl) ?_
      refine lv_iconst (v := 1) hx hb dX_waysOn_22 (by decide) ?_
      refine nr_iadd hx hb (a1 := pl) (b1 := 1) dX_waysOn_23 ?_
      refine lv_istore (lv' := [(6, .int (nI (pl + 1))), (5, .int (1)), (0, .ref (q 0)), (1, .int (nI (fi))), (2, .int (nI (pl))), (3, .int (nI (st))), (4, .int (lo))]) hx hb dX_waysOn_24 hl (by decide) rfl (fun ls hl => ?_)
      refine lX_waysOn l dC dI q cI cZ cG a f w n ms fi pl st lo hn hf1 h0 hm hf4 h1 (by omega) h3 ⟨Nat.le_refl _, Nat.le_refl _⟩ hx hb hml hown hbw hP hK n (pl + 1) (1) ls (by omega) (lv_sub hl [0, 1, 2, 3, 4, 5, 6] rfl) (by omega) (fun ls hl => ?_)
      refine lv_iload hx hb dX_waysOn_80 (lv_at hl 0 rfl) ?_
      exact W.iret (v := xOnL a f w n ms fi pl st (n + 1) (pl + 1) (1)) hx hb hr (fun t ht hW => ⟨xOnL a f w n ms fi pl st (n + 1) (pl + 1) (1), rfl, by first | (simp [xOn, bI, *]; done) | (subst_vars; simp [xOn, bI, *]; done) | (subst_vars; simp_all [xOn, bI]; done), ht⟩) (fun q h => by cases h) dX_waysOn_82
end
section
/-! THE CLASS: waysFrom -/
abbrev XS : Type := (Nat → Nat → Int32) × (Nat → Int32) × (Nat → Nat → Int32)
abbrev atX (dC : Nat → ClassId) (dI : Nat → Nat → Nat) (q : Nat → Nat) (cI cZ cG : ClassId) (A : Nat → Prop) (u : XS) (t : State) : Prop := va_P (dC, dI) cls2 (xw q cI cZ cG u.1 u.2.1 u.2.2) t.heap ∧ va_K (dC, dI) cls2 (xt cI cZ cG) t ∧ va_D A (xw q cI cZ cG u.1 u.2.1 u.2.2)
abbrev MS : Type := (Nat → Nat → Int32) × (Nat → Int32)
abbrev atM (dC : Nat → ClassId) (dI : Nat → Nat → Nat) (r : Nat → Nat) (cI cZ cG : ClassId) (A : Nat → Prop) (u : MS) (t : State) : Prop := va_P (dC, dI) cls2 (mw r cI cZ u.1 u.2) t.heap ∧ va_K (dC, dI) cls2 (xt cI cZ cG) t ∧ va_D A (mw r cI cZ u.1 u.2)
def xFromI (a : Nat → Nat → Int32) (f : Nat → Int32) (n ms fi pl : Nat) (lo : Int32) : Nat → Nat → (Nat → Nat → Int32) → (Nat → Nat → Int32)
  | 0, _, w => w
  | k + 1, st, w => if st < ms then xFromI a f n ms fi pl lo k (st + 1) (va_up w pl (upd (w pl) st (xOn a f w n ms fi pl st lo))) else w
theorem xFromI_out {a : Nat → Nat → Int32} {f : Nat → Int32} {n ms fi pl k st : Nat} {lo : Int32} {w : Nat → Nat → Int32} (h : ms ≤ st) : xFromI a f n ms fi pl lo (k + 1) st w = w := by
  rw [xFromI, if_neg (by omega)]
theorem xFromI_in {a : Nat → Nat → Int32} {f : Nat → Int32} {n ms fi pl k st : Nat} {lo : Int32} {w : Nat → Nat → Int32} (hk : 1 ≤ k) (h : st < ms) : xFromI a f n ms fi pl lo (k + 1) st w = xFromI a f n ms fi pl lo (k - 1 + 1) (st + 1) (va_up w pl (upd (w pl) st (xOn a f w n ms fi pl st lo))) := by
  rw [xFromI, if_pos h, show k - 1 + 1 = k by omega]
def xFromO (a : Nat → Nat → Int32) (f : Nat → Int32) (n ms fi : Nat) (lo : Int32) : Nat → (Nat → Nat → Int32) → (Nat → Nat → Int32)
  | 0, w => w
  | k + 1, w => if fi ≤ k then xFromO a f n ms fi lo k (xFromI a f n ms fi k lo (ms + 1) 0 w) else w
theorem xFromO_out {a : Nat → Nat → Int32} {f : Nat → Int32} {n ms fi k : Nat} {lo : Int32} {w : Nat → Nat → Int32} (h : k ≤ fi) : xFromO a f n ms fi lo k w = w := by
  cases k with
  | zero => rfl
  | succ k => rw [xFromO, if_neg (by omega)]
theorem xFromO_in {a : Nat → Nat → Int32} {f : Nat → Int32} {n ms fi k : Nat} {lo : Int32} {w : Nat → Nat → Int32} (h : fi < k) : xFromO a f n ms fi lo k w = xFromO a f n ms fi lo (k - 1) (xFromI a f n ms fi (k - 1) lo (ms + 1) 0 w) := by
  obtain ⟨j, rfl⟩ : ∃ j, k = j + 1 := ⟨k - 1, by omega⟩
  rw [xFromO, if_pos (by omega)]; rfl
theorem nr_below {k fi : Nat} (hk : k ≤ 16) (hf : fi ≤ 16) : nI k + Int32.ofInt (-1) < nI fi ↔ k ≤ fi := by
  have e : nI k + Int32.ofInt (-1) = nI k - nI 1 := by
    rw [show (Int32.ofInt (-1)) = -(nI 1) from by decide, ← Int32.sub_eq_add_neg]
  rw [e, Int32.lt_iff_toInt_lt, pk_sub_toInt (by omega) (by omega), nI_toInt (by omega)]
  omega
def xFromW (a : Nat → Nat → Int32) (f : Nat → Int32) (n ms fi : Nat) (lo : Int32) (w : Nat → Nat → Int32) : Nat → Nat → Int32 := if xFit a fi 0 fi fi then xFromO a f n ms fi lo n w else w
def xFromR (a : Nat → Nat → Int32) (f : Nat → Int32) (n ms fi : Nat) (lo : Int32) (w : Nat → Nat → Int32) : Int32 := if xFit a fi 0 fi fi then xFromO a f n ms fi lo n w fi 0 else 0
set_option maxHeartbeats 4000000 in
set_option maxRecDepth 100000 in
theorem lX_waysFromI (l : Launch) (dC : Nat → ClassId) (dI : Nat → Nat → Nat) (q : Nat → Nat) (cI cZ cG : ClassId) (a : Nat → Nat → Int32) (f : Nat → Int32) {p : Program} {e : Env} {s : State} {m : MethodId} {args : Array Value} {below : List Frame} {meth : Method} {c : Code} {Q : State → Prop} {A : Nat → Prop} (n ms fi : Nat) (lo : Int32) (hn : n ≤ 16) (hf1 : f 1 = nI n) (h0 : 1 ≤ ms) (hm : ms ≤ 5) (hf4 : f 4 = nI ms) (h1 : fi < n) {cells slots : Nat} (hcs : cells ≤ 0 ∧ slots ≤ 0) (hx : p.tables.exec = Jvm.exec) (hb : c.code = cX_waysFrom) (hml : c.maxLocals = 5) (hown : s.vm.findClass "EventPatterns" = some m.cls) (hbw : ∀ w ∈ bw, w.before args s = true) (hK : va_K (dC, dI) cls2 (xt cI cZ cG) s) (pl : Nat) (hpl : pl < n) :
    ∀ (k st : Nat) (w : Nat → Nat → Int32) (H : Heap) (locs : List Loc) (ls : Array Slot), ms ≤ st + k → st ≤ ms → lv_has ls 5 [(4, .int (nI st)), (3, .int (nI pl)), (0, .ref (q 0)), (1, .int (nI fi)), (2, .int lo)] → va_P (dC, dI) cls2 (xw q cI cZ cG (a) (f) (w)) H → va_D A (xw q cI cZ cG (a) (f) (w)) → va_S A s.heap H locs →
      (∀ (H : Heap) (locs : List Loc) (ls : Array Slot), lv_has ls 5 [(3, .int (nI pl)), (0, .ref (q 0)), (1, .int (nI fi)), (2, .int lo)] → va_P (dC, dI) cls2 (xw q cI cZ cG (a) (f) (xFromI a f n ms fi pl lo (k + 1) st w)) H → va_D A (xw q cI cZ cG (a) (f) (xFromI a f n ms fi pl lo (k + 1) st w)) → va_S A s.heap H locs → W p l e ({ frames := 3, cells := 0, slots := 0, locals := 75 }) s m args below meth c H locs cells slots Q (F0 m 61 ls [])) → W p l e ({ frames := 3, cells := 0, slots := 0, locals := 75 }) s m args below meth c H locs cells slots Q (F0 m 28 ls []) := by
  intro k
  induction k using Nat.strongRecOn with
  | ind k ih =>
    intro st w H locs ls hk hst hl hP hD hS kk
    refine lv_iload hx hb dX_waysFrom_28 (lv_at hl 0 rfl) ?_
    refine lv_aload_n hx hb dX_waysFrom_30 rfl (lv_at hl 2 rfl) ?_
    refine va_get (D := (dC, dI)) (ci := 0) (v := .int (nI (ms))) (C := "EventPatterns") (T := TX) (N := 16) hx hb hbw inX hown hK hP 0 rfl rfl 11 (by decide) (hbw _ kf_X_56) (fun _ h9 => h9) (congrArg (fun z => some (Value.int z)) (hf4)) dX_waysFrom_31 ?_
    refine nr_icmp_ge (tgt := 61) hx hb (a1 := st) (b1 := ms) (by omega) (by omega) dX_waysFrom_34 (by decide) (fun c_34 => ?_) (fun c_34 => ?_)
    · exact kk H locs ls (lv_sub hl [1, 2, 3, 4] rfl) (by rw [xFromI_out c_34]; exact hP) (by rw [xFromI_out c_34]; exact hD) hS
    · refine lv_aload_n hx hb dX_waysFrom_37 rfl (lv_at hl 2 rfl) ?_
      refine va_get (D := (dC, dI)) (ci := 0) (v := .ref (q 8)) (C := "EventPatterns") (T := TX) (N := 16) hx hb hbw inX hown hK hP 0 rfl rfl 12 (by decide) (hbw _ kf_X_34) (fun _ h9 => h9) rfl dX_waysFrom_38 ?_
      refine lv_iload_n hx hb dX_waysFrom_41 rfl (lv_at hl 1 rfl) ?_
      refine nr_aald hx hb hK hP 8 2 rfl rfl (j := pl) (by omega) (by decide) dX_waysFrom_42 ?_
      refine W.eq (g2 := F0 m 43 ls [.ref (q (11 + (pl)))]) rfl ?_
      refine lv_iload hx hb dX_waysFrom_43 (lv_at hl 0 rfl) ?_
      refine lv_aload_n hx hb dX_waysFrom_45 rfl (lv_at hl 2 rfl) ?_
      refine lv_iload_n hx hb dX_waysFrom_46 rfl (lv_at hl 3 rfl) ?_
      refine lv_iload_n hx hb dX_waysFrom_47 rfl (lv_at hl 1 rfl) ?_
      refine lv_iload hx hb dX_waysFrom_48 (lv_at hl 0 rfl) ?_
      refine lv_iload_n hx hb dX_waysFrom_50 rfl (lv_at hl 4 rfl) ?_
      refine vp_callSi (W.runV (As := [.int (nI (fi)), .int (nI (pl)), .int (nI (st)), .int (lo)]) (rest := [.int (nI (st)), .ref (q (11 + (pl)))]) ⟨hx, hb, hml, hown, hbw⟩ (tX_waysOn l dC dI q cI cZ cG a f (w) n ms (fi) (pl) (st) (lo) hn hf1 h0 hm hf4 (by omega) (by omega) (by omega)) (cwV 4 hbw (bw_V km_X_131 ki_yX_waysOn ksel_yX_waysOn ki_EventPatterns kcX_waysOn) rfl rfl rfl (by decide +kernel) ⟨Nat.le_of_ble_eq_true rfl, Nat.le_of_ble_eq_true rfl⟩) ⟨fun a U g mk q => by obtain ⟨q0, qP, qK⟩ := q; exact ⟨q0, qP, va_K.moved (u := U) (U := U.calling g mk a) (Vm.Alike.refl U.vm) qK⟩, va_recv hK hP (ci := 0) (q0 := 0) rfl rfl, fun U hU hW => ⟨rfl, by rw [hU]; exact hP, va_K.moved hW.alike hK⟩⟩ rfl rfl hl.1 rfl (lv_room (Nat.le_of_ble_eq_true rfl)) dX_waysFrom_51 ⟨hcs.1, hcs.2⟩) (fun r_51 hq => ?_)
      subst hq
      refine nr_iast hx hb hK hP hD hS (11 + (pl)) 0 (xw_row q cI cZ cG _ _ _ (by omega)) rfl (j := st) (by omega) (by decide) dX_waysFrom_54 (fun H locs hP hD hS => ?_)
      rw [xw_put q cI cZ cG _ _ _ (by omega)] at hP hD
      refine lv_iinc (v := nI (st + 1)) (lv' := [(4, .int (nI (st + 1))), (3, .int (nI (pl))), (0, .ref (q 0)), (1, .int (nI (fi))), (2, .int (lo))]) hx hb dX_waysFrom_55 hl (k := 0) rfl (nI_1 _) (by decide) rfl (fun ls hl => ?_)
      refine lv_goto (tgt := 28) hx hb dX_waysFrom_58 (by decide) ?_
      exact ih (k - 1) (by omega) (st + 1) _ _ _ ls (by omega) (by omega) (lv_sub hl [0, 1, 2, 3, 4] rfl) hP hD hS (fun H locs ls hl hP hD hS => kk H locs ls hl (by rw [xFromI_in (by omega) c_34]; exact hP) (by rw [xFromI_in (by omega) c_34]; exact hD) hS)
set_option maxHeartbeats 4000000 in
set_option maxRecDepth 100000 in
theorem lX_waysFromO (l : Launch) (dC : Nat → ClassId) (dI : Nat → Nat → Nat) (q : Nat → Nat) (cI cZ cG : ClassId) (a : Nat → Nat → Int32) (f : Nat → Int32) {p : Program} {e : Env} {s : State} {m : MethodId} {args : Array Value} {below : List Frame} {meth : Method} {c : Code} {Q : State → Prop} {A : Nat → Prop} (n ms fi : Nat) (lo : Int32) (hn : n ≤ 16) (hf1 : f 1 = nI n) (h0 : 1 ≤ ms) (hm : ms ≤ 5) (hf4 : f 4 = nI ms) (h1 : fi < n) {cells slots : Nat} (hcs : cells ≤ 0 ∧ slots ≤ 0) (hx : p.tables.exec = Jvm.exec) (hb : c.code = cX_waysFrom) (hml : c.maxLocals = 5) (hown : s.vm.findClass "EventPatterns" = some m.cls) (hbw : ∀ w ∈ bw, w.before args s = true) (hK : va_K (dC, dI) cls2 (xt cI cZ cG) s) :
    ∀ (k : Nat) (w : Nat → Nat → Int32) (H : Heap) (locs : List Loc) (ls : Array Slot), k ≤ n → lv_has ls 5 [(3, .int (nI k + Int32.ofInt (-1))), (0, .ref (q 0)), (1, .int (nI fi)), (2, .int lo)] → va_P (dC, dI) cls2 (xw q cI cZ cG (a) (f) (w)) H → va_D A (xw q cI cZ cG (a) (f) (w)) → va_S A s.heap H locs →
      (∀ (H : Heap) (locs : List Loc) (ls : Array Slot), lv_has ls 5 [(0, .ref (q 0)), (1, .int (nI fi)), (2, .int lo)] → va_P (dC, dI) cls2 (xw q cI cZ cG (a) (f) (xFromO a f n ms fi lo k w)) H → va_D A (xw q cI cZ cG (a) (f) (xFromO a f n ms fi lo k w)) → va_S A s.heap H locs → W p l e ({ frames := 3, cells := 0, slots := 0, locals := 75 }) s m args below meth c H locs cells slots Q (F0 m 67 ls [])) → W p l e ({ frames := 3, cells := 0, slots := 0, locals := 75 }) s m args below meth c H locs cells slots Q (F0 m 20 ls []) := by
  intro k
  induction k using Nat.strongRecOn with
  | ind k ih =>
    intro w H locs ls hk hl hP hD hS kk
    refine lv_iload_n hx hb dX_waysFrom_20 rfl (lv_at hl 0 rfl) ?_
    refine lv_iload_n hx hb dX_waysFrom_21 rfl (lv_at hl 2 rfl) ?_
    refine lv_icmp_lt (tgt := 67) hx hb dX_waysFrom_22 (by decide) (fun c_22 => ?_) (fun c_22 => ?_) <;> rw [nr_below (by omega) (by omega)] at c_22
    · exact kk H locs ls (lv_sub hl [1, 2, 3] rfl) (by rw [xFromO_out c_22]; exact hP) (by rw [xFromO_out c_22]; exact hD) hS
    rw [nr_dec (by omega)] at hl
    refine lv_iconst (v := 0) hx hb dX_waysFrom_25 (by decide) ?_
    refine lv_istore (lv' := [(4, .int (0)), (3, .int (nI (k - 1))), (0, .ref (q 0)), (1, .int (nI (fi))), (2, .int (lo))]) hx hb dX_waysFrom_26 hl (by decide) rfl (fun ls hl => ?_)
    refine lX_waysFromI l dC dI q cI cZ cG a f n ms fi lo hn hf1 h0 hm hf4 h1 hcs hx hb hml hown hbw hK (k - 1) (by omega) ms 0 w H locs ls (by omega) (by omega) (lv_sub hl [0, 1, 2, 3, 4] rfl) hP hD hS (fun H locs ls hl hP hD hS => ?_)
    refine lv_iinc (v := nI (k - 1) + Int32.ofInt (-1)) (lv' := [(3, .int (nI (k - 1) + Int32.ofInt (-1))), (0, .ref (q 0)), (1, .int (nI (fi))), (2, .int (lo))]) hx hb dX_waysFrom_61 hl (k := 0) rfl rfl (by decide) rfl (fun ls hl => ?_)
    refine lv_goto (tgt := 20) hx hb dX_waysFrom_64 (by decide) ?_
    exact ih (k - 1) (by omega) _ _ _ ls (by omega) (lv_sub hl [0, 1, 2, 3] rfl) hP hD hS (fun H locs ls hl hP hD hS => kk H locs ls hl (by rw [xFromO_in (by omega)]; exact hP) (by rw [xFromO_in (by omega)]; exact hD) hS)
set_option maxHeartbeats 4000000 in
set_option maxRecDepth 100000 in
/-- waysFrom(first, lowestEnd) -/
theorem tX_waysFrom (l : Launch) (dC : Nat → ClassId) (dI : Nat → Nat → Nat) (q : Nat → Nat) (cI cZ cG : ClassId) (a : Nat → Nat → Int32) (f : Nat → Int32) (w : Nat → Nat → Int32) (sz : Nat) (n ms fi : Nat) (lo : Int32) (hn : n ≤ 16) (hf1 : f 1 = nI n) (h0 : 1 ≤ ms) (hm : ms ≤ 5) (hf4 : f 4 = nI ms) (h1 : fi < n) : Met l yX_waysFrom wX_waysFrom ({ frames := 3, cells := 0, slots := 0, locals := 75 }) (va_Pc [.ref (q 0), .int (nI (fi)), .int (lo)] (fun U => U.heap.size = sz ∧ va_P (dC, dI) cls2 (xw q cI cZ cG a f w) U.heap ∧ va_K (dC, dI) cls2 (xt cI cZ cG) U ∧ va_D (fun _ => True) (xw q cI cZ cG a f w))) (va_Qi (fun (r0 : Int32) (u : XS) => r0 = xFromR a f n ms fi lo w ∧ u = (a, f, xFromW a f n ms fi lo w)) (atX dC dI q cI cZ cG (va_A (xw q cI cZ cG a f w) sz)) (va_A (xw q cI cZ cG a f w) sz)) 0 0 (va_A (xw q cI cZ cG a f w) sz) := by
  refine Met.ofW (cc := cX_waysFrom) (maxL := 5) (ret := (some .int)) (by decide) rfl ?_
  intro p e s m args below meth c s₁ B hml hv
  obtain ⟨rfl, hsz, hP, hK, hD0⟩ := hv
  have hx := B.exec
  have hb := B.bytes
  have hr := B.returns
  have hbw : ∀ w ∈ bw, w.before _ s = true := fun w h => atoms_spec (ws := wX_waysFrom) B.pre w (List.mem_cons_of_mem _ h)
  have hown : s.vm.findClass "EventPatterns" = some m.cls := findClass_of_methodNamed B.named
  have hlocks := B.notSynchronized
  subst hsz
  have hD := hD0.self (sz := s.heap.size)
  generalize hAe : va_A (xw q cI cZ cG a f w) s.heap.size = A at hD ⊢
  have hA : ∀ q : Nat, s.heap.size ≤ q → A q := fun q h => by rw [← hAe]; exact Or.inr h
  have hS : va_S A s.heap s.heap [] := va_S.rf
  have hl := lv_entry ([.ref (q 0), .int (nI (fi)), .int (lo)]) (n := 5) (Nat.le_of_ble_eq_true rfl)
  rw [lg_entry_eq]
  generalize (lg_sl ([.ref (q 0), .int (nI (fi)), .int (lo)]) ++ List.replicate (5 - (lg_sl ([.ref (q 0), .int (nI (fi)), .int (lo)])).length) Slot.unset).toArray = ls at hl ⊢
  have hl : lv_has ls 5 [(0, .ref (q 0)), (1, .int (nI (fi))), (2, .int (lo))] := hl
  refine lv_aload_n hx hb dX_waysFrom_0 rfl (lv_at hl 0 rfl) ?_
  refine lv_iload_n hx hb dX_waysFrom_1 rfl (lv_at hl 1 rfl) ?_
  refine lv_iconst (v := 0) hx hb dX_waysFrom_2 (by decide) ?_
  refine lv_iload_n hx hb dX_waysFrom_3 rfl (lv_at hl 1 rfl) ?_
  refine lv_iload_n hx hb dX_waysFrom_4 rfl (lv_at hl 1 rfl) ?_
  refine vp_callSi (W.runV (As := [.int (nI (fi)), .int (0), .int (nI (fi)), .int (nI (fi))]) (rest := []) ⟨hx, hb, hml, hown, hbw⟩ (tX_fits l dC dI q cI cZ cG a f (w) (fi) (0) (fi) (fi) (by omega) (by omega) (by omega) (by omega)) (cwV 4 hbw (bw_V km_X_127 ki_yX_fits ksel_yX_fits ki_EventPatterns kcX_fits) rfl rfl rfl (by decide +kernel) ⟨Nat.le_of_ble_eq_true rfl, Nat.le_of_ble_eq_true rfl⟩) ⟨fun a U g mk q => by obtain ⟨q0, qP, qK⟩ := q; exact ⟨q0, qP, va_K.moved (u := U) (U := U.calling g mk a) (Vm.Alike.refl U.vm) qK⟩, va_recv hK hP (ci := 0) (q0 := 0) rfl rfl, fun U hU hW => ⟨rfl, by rw [hU]; exact hP, va_K.moved hW.alike hK⟩⟩ rfl rfl hl.1 rfl (lv_room (Nat.le_of_ble_eq_true rfl)) dX_waysFrom_5 ⟨Nat.le_of_ble_eq_true rfl, Nat.le_of_ble_eq_true rfl⟩) (fun r_5 hq => ?_)
  subst hq
  refine nr_ifb_ne (tgt := 13) hx hb (b := (xFit a (fi) (0) (fi) (fi))) dX_waysFrom_8 (by decide) (fun c_8 => ?_) (fun c_8 => ?_)
  · refine lv_aload_n hx hb dX_waysFrom_13 rfl (lv_at hl 0 rfl) ?_
    refine va_get (D := (dC, dI)) (ci := 0) (v := .int (nI (n))) (C := "EventPatterns") (T := TX) (N := 16) hx hb hbw inX hown hK hP 0 rfl rfl 4 (by decide) (hbw _ kf_X_47) (fun _ h9 => h9) (congrArg (fun z => some (Value.int z)) (hf1)) dX_waysFrom_14 ?_
    refine lv_iconst (v := 1) hx hb dX_waysFrom_17 (by decide) ?_
    refine nr_isub hx hb (a1 := n) (b1 := 1) (by omega) dX_waysFrom_18 ?_
    refine lv_istore_n (lv' := [(3, .int (nI (n - 1))), (0, .ref (q 0)), (1, .int (nI (fi))), (2, .int (lo))]) hx hb dX_waysFrom_19 rfl hl (by decide) rfl (fun ls hl => ?_)
    rw [show nI (n - 1) = nI n + Int32.ofInt (-1) from (nr_dec (by omega)).symm] at hl
    refine lX_waysFromO l dC dI q cI cZ cG a f n ms fi lo hn hf1 h0 hm hf4 h1 ⟨Nat.le_refl _, Nat.le_refl _⟩ hx hb hml hown hbw hK n w s.heap [] ls (by omega) (lv_sub hl [0, 1, 2, 3] rfl) hP hD hS (fun H locs ls hl hP hD hS => ?_)
    refine lv_aload_n hx hb dX_waysFrom_67 rfl (lv_at hl 0 rfl) ?_
    refine va_get (D := (dC, dI)) (ci := 0) (v := .ref (q 8)) (C := "EventPatterns") (T := TX) (N := 16) hx hb hbw inX hown hK hP 0 rfl rfl 12 (by decide) (hbw _ kf_X_34) (fun _ h9 => h9) rfl dX_waysFrom_68 ?_
    refine lv_iload_n hx hb dX_waysFrom_71 rfl (lv_at hl 1 rfl) ?_
    refine nr_aald hx hb hK hP 8 2 rfl rfl (j := fi) (by omega) (by decide) dX_waysFrom_72 ?_
    refine W.eq (g2 := F0 m 73 ls [.ref (q (11 + (fi)))]) rfl ?_
    refine lv_iconst (v := 0) hx hb dX_waysFrom_73 (by decide) ?_
    refine nr_iald hx hb hK hP (11 + (fi)) 0 (xw_row q cI cZ cG _ _ _ (by omega)) rfl (j := 0) (by omega) (by decide) dX_waysFrom_74 ?_
    have eW : xFromW a f n ms fi lo w = xFromO a f n ms fi lo n w := by simp [xFromW, *]
    rw [← eW] at hP hD
    exact W.iret (v := ((xFromO a f n ms fi lo n w) (fi)) (0)) hx hb hr (fun t ht hW => ⟨⟨((xFromO a f n ms fi lo n w) (fi)) (0), (a, f, xFromW a f n ms fi lo w), rfl, ⟨by simp [xFromR, *], rfl⟩, by rw [ht]; exact hP, va_K.moved hW.alike hK, hD⟩, hS.F ht⟩) hS.2.2 dX_waysFrom_75
  · refine lv_iconst (v := 0) hx hb dX_waysFrom_11 (by decide) ?_
    have eW : xFromW a f n ms fi lo w = w := by simp [xFromW, *]
    rw [← eW] at hP hD
    exact W.iret (v := 0) hx hb hr (fun t ht hW => ⟨⟨0, (a, f, xFromW a f n ms fi lo w), rfl, ⟨by simp [xFromR, *], rfl⟩, by rw [ht]; exact hP, va_K.moved hW.alike hK, hD⟩, hS.F ht⟩) hS.2.2 dX_waysFrom_12
end
section
/-! THE CLASS: countEnding, addFound -/
def xCntL (a : Nat → Nat → Int32) (f : Nat → Int32) (n ms : Nat) (lo : Int32) : Nat → Nat → Int32 → (Nat → Nat → Int32) → Int32 × (Nat → Nat → Int32)
  | 0, _, acc, w => (acc, w)
  | k + 1, fi, acc, w => if fi < n then xCntL a f n ms lo k (fi + 1) (acc + xFromR a f n ms fi lo w) (xFromW a f n ms fi lo w) else (acc, w)
theorem xCntL_out {a : Nat → Nat → Int32} {f : Nat → Int32} {n ms k fi : Nat} {lo acc : Int32} {w : Nat → Nat → Int32} (h : n ≤ fi) : xCntL a f n ms lo (k + 1) fi acc w = (acc, w) := by
  rw [xCntL, if_neg (by omega)]
theorem xCntL_in {a : Nat → Nat → Int32} {f : Nat → Int32} {n ms k fi : Nat} {lo acc : Int32} {w : Nat → Nat → Int32} (hk : 1 ≤ k) (h : fi < n) : xCntL a f n ms lo (k + 1) fi acc w = xCntL a f n ms lo (k - 1 + 1) (fi + 1) (acc + xFromR a f n ms fi lo w) (xFromW a f n ms fi lo w) := by
  rw [xCntL, if_pos h, show k - 1 + 1 = k by omega]
set_option maxHeartbeats 4000000 in
set_option maxRecDepth 100000 in
theorem lX_countEnding (l : Launch) (dC : Nat → ClassId) (dI : Nat → Nat → Nat) (q : Nat → Nat) (cI cZ cG : ClassId) (a : Nat → Nat → Int32) (f : Nat → Int32) {p : Program} {e : Env} {s : State} {m : MethodId} {args : Array Value} {below : List Frame} {meth : Method} {c : Code} {Q : State → Prop} {A : Nat → Prop} (n ms : Nat) (lo : Int32) (hn : n ≤ 16) (hf1 : f 1 = nI n) (h0 : 1 ≤ ms) (hm : ms ≤ 5) (hf4 : f 4 = nI ms) {cells slots : Nat} (hcs : cells ≤ 0 ∧ slots ≤ 0) (hx : p.tables.exec = Jvm.exec) (hb : c.code = cX_countEnding) (hml : c.maxLocals = 4) (hown : s.vm.findClass "EventPatterns" = some m.cls) (hbw : ∀ w ∈ bw, w.before args s = true) (hK : va_K (dC, dI) cls2 (xt cI cZ cG) s) (hA : ∀ q : Nat, s.heap.size ≤ q → A q) :
    ∀ (k fi : Nat) (acc : Int32) (w : Nat → Nat → Int32) (H : Heap) (locs : List Loc) (ls : Array Slot), n ≤ fi + k → fi ≤ 16 → lv_has ls 4 [(3, .int (nI fi)), (2, .int acc), (0, .ref (q 0)), (1, .int lo)] → va_P (dC, dI) cls2 (xw q cI cZ cG (a) (f) (w)) H → va_D A (xw q cI cZ cG (a) (f) (w)) → va_S A s.heap H locs →
      (∀ (H : Heap) (locs : List Loc) (ls : Array Slot), lv_has ls 4 [(2, .int (xCntL a f n ms lo (k + 1) fi acc w).1), (0, .ref (q 0)), (1, .int lo)] → va_P (dC, dI) cls2 (xw q cI cZ cG (a) (f) ((xCntL a f n ms lo (k + 1) fi acc w).2)) H → va_D A (xw q cI cZ cG (a) (f) ((xCntL a f n ms lo (k + 1) fi acc w).2)) → va_S A s.heap H locs → W p l e ({ frames := 4, cells := 0, slots := 0, locals := 99 }) s m args below meth c H locs cells slots Q (F0 m 27 ls [])) → W p l e ({ frames := 4, cells := 0, slots := 0, locals := 99 }) s m args below meth c H locs cells slots Q (F0 m 4 ls []) := by
  intro k
  induction k using Nat.strongRecOn with
  | ind k ih =>
    intro fi acc w H locs ls hk hfi hl hP hD hS kk
    refine lv_iload_n hx hb dX_countEnding_4 rfl (lv_at hl 0 rfl) ?_
    refine lv_aload_n hx hb dX_countEnding_5 rfl (lv_at hl 2 rfl) ?_
    refine va_get (D := (dC, dI)) (ci := 0) (v := .int (nI (n))) (C := "EventPatterns") (T := TX) (N := 16) hx hb hbw inX hown hK hP 0 rfl rfl 4 (by decide) (hbw _ kf_X_47) (fun _ h9 => h9) (congrArg (fun z => some (Value.int z)) (hf1)) dX_countEnding_6 ?_
    refine nr_icmp_ge (tgt := 27) hx hb (a1 := fi) (b1 := n) (by omega) (by omega) dX_countEnding_9 (by decide) (fun c_9 => ?_) (fun c_9 => ?_)
    · exact kk H locs ls (by rw [xCntL_out c_9]; exact (lv_sub hl [1, 2, 3] rfl)) (by rw [xCntL_out c_9]; exact hP) (by rw [xCntL_out c_9]; exact hD) hS
    · refine lv_iload_n hx hb dX_countEnding_12 rfl (lv_at hl 1 rfl) ?_
      refine lv_aload_n hx hb dX_countEnding_13 rfl (lv_at hl 2 rfl) ?_
      refine lv_iload_n hx hb dX_countEnding_14 rfl (lv_at hl 0 rfl) ?_
      refine lv_iload_n hx hb dX_countEnding_15 rfl (lv_at hl 3 rfl) ?_
      have hFc := va_free (wc := xw q cI cZ cG (a) (f) (w)) hD hS hA (List.range 27) rfl
      refine va_calli (va_runV (As := [.int (nI (fi)), .int (lo)]) (rest := [.int (acc)]) ⟨hx, hb, hml, hown, hbw⟩ (tX_waysFrom l dC dI q cI cZ cG a f (w) H.size n ms (fi) (lo) hn hf1 h0 hm hf4 (by omega)) (cwV 2 hbw (bw_V km_X_123 ki_yX_waysFrom ksel_yX_waysFrom ki_EventPatterns kcX_waysFrom) rfl rfl rfl (by decide +kernel) ⟨Nat.le_of_ble_eq_true rfl, Nat.le_of_ble_eq_true rfl⟩) ⟨fun a U g mk q => by obtain ⟨q0, q1, qP, qK, qD⟩ := q; exact ⟨q0, q1, qP, va_K.moved (u := U) (U := U.calling g mk a) (Vm.Alike.refl U.vm) qK, qD⟩, va_recv hK hP (ci := 0) (q0 := 0) rfl rfl, fun U hU hW => ⟨rfl, by rw [hU], by rw [hU]; exact hP, va_K.moved hW.alike hK, hD.weaken (fun _ _ _ _ => trivial)⟩⟩ rfl rfl hl.1 rfl (lv_room (Nat.le_of_ble_eq_true rfl)) dX_countEnding_16 ⟨hcs.1, hcs.2⟩) hS (fun q _ h => hFc q h) hFc (fun r_16 u t H1 locs ht hvm hq hB hz1 hk1 hS => ?_)
      obtain ⟨rfl, rfl⟩ := hq
      obtain ⟨hP1, hK1, hD1⟩ := hB
      rw [ht] at hP1
      have hP : va_P (dC, dI) cls2 (xw q cI cZ cG (a) (f) (xFromW a f n ms (fi) (lo) (w))) H1 := hP1
      have hD : va_D A (xw q cI cZ cG (a) (f) (xFromW a f n ms (fi) (lo) (w))) := hD1.weaken (fun _ _ _ h => hFc _ h)
      generalize H1 = H at hP hS ⊢
      refine lv_iadd hx hb dX_countEnding_19 ?_
      refine lv_istore_n (lv' := [(2, .int ((acc) + (xFromR a f n ms (fi) (lo) (w)))), (3, .int (nI (fi))), (0, .ref (q 0)), (1, .int (lo))]) hx hb dX_countEnding_20 rfl hl (by decide) rfl (fun ls hl => ?_)
      refine lv_iinc (v := nI (fi + 1)) (lv' := [(3, .int (nI (fi + 1))), (2, .int ((acc) + (xFromR a f n ms (fi) (lo) (w)))), (0, .ref (q 0)), (1, .int (lo))]) hx hb dX_countEnding_21 hl (k := 1) rfl (nI_1 _) (by decide) rfl (fun ls hl => ?_)
      refine lv_goto (tgt := 4) hx hb dX_countEnding_24 (by decide) ?_
      exact ih (k - 1) (by omega) (fi + 1) _ _ _ _ ls (by omega) (by omega) (lv_sub hl [0, 1, 2, 3] rfl) hP hD hS (fun H locs ls hl hP hD hS => kk H locs ls (by rw [xCntL_in (by omega) c_9]; exact hl) (by rw [xCntL_in (by omega) c_9]; exact hP) (by rw [xCntL_in (by omega) c_9]; exact hD) hS)
set_option maxHeartbeats 4000000 in
set_option maxRecDepth 100000 in
/-- countEnding(lowestEnd) -/
theorem tX_countEnding (l : Launch) (dC : Nat → ClassId) (dI : Nat → Nat → Nat) (q : Nat → Nat) (cI cZ cG : ClassId) (a : Nat → Nat → Int32) (f : Nat → Int32) (w : Nat → Nat → Int32) (sz : Nat) (n ms : Nat) (lo : Int32) (hn : n ≤ 16) (hf1 : f 1 = nI n) (h0 : 1 ≤ ms) (hm : ms ≤ 5) (hf4 : f 4 = nI ms)  : Met l yX_countEnding wX_countEnding ({ frames := 4, cells := 0, slots := 0, locals := 99 }) (va_Pc [.ref (q 0), .int (lo)] (fun U => U.heap.size = sz ∧ va_P (dC, dI) cls2 (xw q cI cZ cG a f w) U.heap ∧ va_K (dC, dI) cls2 (xt cI cZ cG) U ∧ va_D (fun _ => True) (xw q cI cZ cG a f w))) (va_Qi (fun (r0 : Int32) (u : XS) => r0 = (xCntL a f n ms lo (n + 1) 0 0 w).1 ∧ u = (a, f, (xCntL a f n ms lo (n + 1) 0 0 w).2)) (atX dC dI q cI cZ cG (va_A (xw q cI cZ cG a f w) sz)) (va_A (xw q cI cZ cG a f w) sz)) 0 0 (va_A (xw q cI cZ cG a f w) sz) := by
  refine Met.ofW (cc := cX_countEnding) (maxL := 4) (ret := (some .int)) (by decide) rfl ?_
  intro p e s m args below meth c s₁ B hml hv
  obtain ⟨rfl, hsz, hP, hK, hD0⟩ := hv
  have hx := B.exec
  have hb := B.bytes
  have hr := B.returns
  have hbw : ∀ w ∈ bw, w.before _ s = true := fun w h => atoms_spec (ws := wX_countEnding) B.pre w (List.mem_cons_of_mem _ h)
  have hown : s.vm.findClass "EventPatterns" = some m.cls := findClass_of_methodNamed B.named
  have hlocks := B.notSynchronized
  subst hsz
  have hD := hD0.self (sz := s.heap.size)
  generalize hAe : va_A (xw q cI cZ cG a f w) s.heap.size = A at hD ⊢
  have hA : ∀ q : Nat, s.heap.size ≤ q → A q := fun q h => by rw [← hAe]; exact Or.inr h
  have hS : va_S A s.heap s.heap [] := va_S.rf
  have hl := lv_entry ([.ref (q 0), .int (lo)]) (n := 4) (Nat.le_of_ble_eq_true rfl)
  rw [lg_entry_eq]
  generalize (lg_sl ([.ref (q 0), .int (lo)]) ++ List.replicate (4 - (lg_sl ([.ref (q 0), .int (lo)])).length) Slot.unset).toArray = ls at hl ⊢
  have hl : lv_has ls 4 [(0, .ref (q 0)), (1, .int (lo))] := hl
  refine lv_iconst (v := 0) hx hb dX_countEnding_0 (by decide) ?_
  refine lv_istore_n (lv' := [(2, .int (0)), (0, .ref (q 0)), (1, .int (lo))]) hx hb dX_countEnding_1 rfl hl (by decide) rfl (fun ls hl => ?_)
  refine lv_iconst (v := 0) hx hb dX_countEnding_2 (by decide) ?_
  refine lv_istore_n (lv' := [(3, .int (0)), (2, .int (0)), (0, .ref (q 0)), (1, .int (lo))]) hx hb dX_countEnding_3 rfl hl (by decide) rfl (fun ls hl => ?_)
  refine lX_countEnding l dC dI q cI cZ cG a f n ms lo hn hf1 h0 hm hf4 ⟨Nat.le_refl _, Nat.le_refl _⟩ hx hb hml hown hbw hK hA n 0 0 w s.heap [] ls (by omega) (by omega) (lv_sub hl [0, 1, 2, 3] rfl) hP hD hS (fun H locs ls hl hP hD hS => ?_)
  refine lv_iload_n hx hb dX_countEnding_27 rfl (lv_at hl 0 rfl) ?_
  exact W.iret (v := (xCntL a f n ms lo (n + 1) 0 0 w).1) hx hb hr (fun t ht hW => ⟨⟨(xCntL a f n ms lo (n + 1) 0 0 w).1, (a, f, (xCntL a f n ms lo (n + 1) 0 0 w).2), rfl, ⟨rfl, rfl⟩, by rw [ht]; exact hP, va_K.moved hW.alike hK, hD⟩, hS.F ht⟩) hS.2.2 dX_countEnding_28
def xAddA (a : Nat → Nat → Int32) (L pl st : Nat) : Nat → Nat → Int32 := va_up (va_up a 7 (upd (a 7) L (nI pl))) 8 (upd (a 8) L (nI st))
set_option maxHeartbeats 4000000 in
set_option maxRecDepth 100000 in
/-- addFound(place, step) -/
theorem tX_addFound (l : Launch) (dC : Nat → ClassId) (dI : Nat → Nat → Nat) (q : Nat → Nat) (cI cZ cG : ClassId) (a : Nat → Nat → Int32) (f : Nat → Int32) (w : Nat → Nat → Int32) (sz : Nat) (L pl st : Nat) (hL : L ≤ 16) (hf5 : f 5 = nI L) : Met l yX_addFound wX_addFound ({ frames := 0, cells := 0, slots := 0, locals := 0 }) (va_Pc [.ref (q 0), .int (nI (pl)), .int (nI (st))] (fun U => U.heap.size = sz ∧ va_P (dC, dI) cls2 (xw q cI cZ cG a f w) U.heap ∧ va_K (dC, dI) cls2 (xt cI cZ cG) U ∧ va_D (fun _ => True) (xw q cI cZ cG a f w))) (va_Qv (fun (u : XS) => u = if L < 16 then (xAddA a L pl st, va_up f 5 (nI (L + 1)), w) else (a, f, w)) (atX dC dI q cI cZ cG (va_A (xw q cI cZ cG a f w) sz)) (va_A (xw q cI cZ cG a f w) sz)) 0 0 (va_A (xw q cI cZ cG a f w) sz) := by
  refine Met.ofW (cc := cX_addFound) (maxL := 3) (ret := none) (by decide) rfl ?_
  intro p e s m args below meth c s₁ B hml hv
  obtain ⟨rfl, hsz, hP, hK, hD0⟩ := hv
  have hx := B.exec
  have hb := B.bytes
  have hr := B.returns
  have hbw : ∀ w ∈ bw, w.before _ s = true := fun w h => atoms_spec (ws := wX_addFound) B.pre w (List.mem_cons_of_mem _ h)
  have hown : s.vm.findClass "EventPatterns" = some m.cls := findClass_of_methodNamed B.named
  have hlocks := B.notSynchronized
  subst hsz
  have hD := hD0.self (sz := s.heap.size)
  generalize hAe : va_A (xw q cI cZ cG a f w) s.heap.size = A at hD ⊢
  have hA : ∀ q : Nat, s.heap.size ≤ q → A q := fun q h => by rw [← hAe]; exact Or.inr h
  have hS : va_S A s.heap s.heap [] := va_S.rf
  have hl := lv_entry ([.ref (q 0), .int (nI (pl)), .int (nI (st))]) (n := 3) (Nat.le_of_ble_eq_true rfl)
  rw [lg_entry_eq]
  generalize (lg_sl ([.ref (q 0), .int (nI (pl)), .int (nI (st))]) ++ List.replicate (3 - (lg_sl ([.ref (q 0), .int (nI (pl)), .int (nI (st))])).length) Slot.unset).toArray = ls at hl ⊢
  have hl : lv_has ls 3 [(0, .ref (q 0)), (1, .int (nI (pl))), (2, .int (nI (st)))] := hl
  refine lv_aload_n hx hb dX_addFound_0 rfl (lv_at hl 0 rfl) ?_
  refine va_get (D := (dC, dI)) (ci := 0) (v := .int (nI (L))) (C := "EventPatterns") (T := TX) (N := 16) hx hb hbw inX hown hK hP 0 rfl rfl 15 (by decide) (hbw _ kf_X_59) (fun _ h9 => h9) (congrArg (fun z => some (Value.int z)) (hf5)) dX_addFound_1 ?_
  refine lv_bipush (v := 16) hx hb dX_addFound_4 (by decide) ?_
  refine nr_icmp_ge (tgt := 39) hx hb (a1 := L) (b1 := 16) (by omega) (by omega) dX_addFound_6 (by decide) (fun c_6 => ?_) (fun c_6 => ?_)
  · exact W.vret hx hb hr (fun t ht hW => ⟨⟨(a, f, w), rfl, by rw [if_neg (by omega)], by rw [ht]; exact hP, va_K.moved hW.alike hK, hD⟩, hS.F ht⟩) hS.2.2 dX_addFound_39
  · refine lv_aload_n hx hb dX_addFound_9 rfl (lv_at hl 0 rfl) ?_
    refine va_get (D := (dC, dI)) (ci := 0) (v := .ref (q 9)) (C := "EventPatterns") (T := TX) (N := 16) hx hb hbw inX hown hK hP 0 rfl rfl 13 (by decide) (hbw _ kf_X_37) (fun _ h9 => h9) rfl dX_addFound_10 ?_
    refine lv_aload_n hx hb dX_addFound_13 rfl (lv_at hl 0 rfl) ?_
    refine va_get (D := (dC, dI)) (ci := 0) (v := .int (nI (L))) (C := "EventPatterns") (T := TX) (N := 16) hx hb hbw inX hown hK hP 0 rfl rfl 15 (by decide) (hbw _ kf_X_59) (fun _ h9 => h9) (congrArg (fun z => some (Value.int z)) (hf5)) dX_addFound_14 ?_
    refine lv_iload_n hx hb dX_addFound_17 rfl (lv_at hl 1 rfl) ?_
    refine nr_iast hx hb hK hP hD hS 9 0 rfl rfl (j := L) (by omega) (by decide) dX_addFound_18 (fun H locs hP hD hS => ?_)
    have hP : va_P (dC, dI) cls2 (xw q cI cZ cG (va_up (a) 7 (upd (a 7) (L) (nI (pl)))) (f) (w)) H := hP
    have hD : va_D A (xw q cI cZ cG (va_up (a) 7 (upd (a 7) (L) (nI (pl)))) (f) (w)) := hD
    refine lv_aload_n hx hb dX_addFound_19 rfl (lv_at hl 0 rfl) ?_
    refine va_get (D := (dC, dI)) (ci := 0) (v := .ref (q 10)) (C := "EventPatterns") (T := TX) (N := 16) hx hb hbw inX hown hK hP 0 rfl rfl 14 (by decide) (hbw _ kf_X_40) (fun _ h9 => h9) rfl dX_addFound_20 ?_
    refine lv_aload_n hx hb dX_addFound_23 rfl (lv_at hl 0 rfl) ?_
    refine va_get (D := (dC, dI)) (ci := 0) (v := .int (nI (L))) (C := "EventPatterns") (T := TX) (N := 16) hx hb hbw inX hown hK hP 0 rfl rfl 15 (by decide) (hbw _ kf_X_59) (fun _ h9 => h9) (congrArg (fun z => some (Value.int z)) (hf5)) dX_addFound_24 ?_
    refine lv_iload_n hx hb dX_addFound_27 rfl (lv_at hl 2 rfl) ?_
    refine nr_iast hx hb hK hP hD hS 10 0 rfl rfl (j := L) (by omega) (by decide) dX_addFound_28 (fun H locs hP hD hS => ?_)
    have hP : va_P (dC, dI) cls2 (xw q cI cZ cG (va_up (va_up (a) 7 (upd (a 7) (L) (nI (pl)))) 8 (upd (a 8) (L) (nI (st)))) (f) (w)) H := hP
    have hD : va_D A (xw q cI cZ cG (va_up (va_up (a) 7 (upd (a 7) (L) (nI (pl)))) 8 (upd (a 8) (L) (nI (st)))) (f) (w)) := hD
    refine lv_aload_n hx hb dX_addFound_29 rfl (lv_at hl 0 rfl) ?_
    refine lv_dup hx hb dX_addFound_30 rfl ?_
    refine va_get (D := (dC, dI)) (ci := 0) (v := .int (nI (L))) (C := "EventPatterns") (T := TX) (N := 16) hx hb hbw inX hown hK hP 0 rfl rfl 15 (by decide) (hbw _ kf_X_59) (fun _ h9 => h9) (congrArg (fun z => some (Value.int z)) (hf5)) dX_addFound_31 ?_
    refine lv_iconst (v := 1) hx hb dX_addFound_34 (by decide) ?_
    refine nr_iadd hx hb (a1 := L) (b1 := 1) dX_addFound_35 ?_
    refine va_put (D := (dC, dI)) (ci := 0) (v := .int (nI (L + 1))) (ty := .int) (C := "EventPatterns") (T := TX) (N := 16) hx hb hbw inX tyX okX nmX hown hK hP hD hS 0 rfl rfl 15 (by decide) (hbw _ kf_X_59) (fun _ h9 => h9) rfl (by decide +kernel) rfl rfl (Nat.le_of_ble_eq_true rfl) dX_addFound_36 (fun H locs hP hD hS => ?_)
    have hP : va_P (dC, dI) cls2 (xw q cI cZ cG (va_up (va_up (a) 7 (upd (a 7) (L) (nI (pl)))) 8 (upd (a 8) (L) (nI (st)))) (va_up (f) 5 (nI (L + 1))) (w)) H := hP
    have hD : va_D A (xw q cI cZ cG (va_up (va_up (a) 7 (upd (a 7) (L) (nI (pl)))) 8 (upd (a 8) (L) (nI (st)))) (va_up (f) 5 (nI (L + 1))) (w)) := hD
    exact W.vret hx hb hr (fun t ht hW => ⟨⟨(xAddA a L pl st, va_up f 5 (nI (L + 1)), w), rfl, by rw [if_pos c_6], by rw [ht]; exact hP, va_K.moved hW.alike hK, hD⟩, hS.F ht⟩) hS.2.2 dX_addFound_39
end
section
/-! THE CLASS: walk, find -/
def xWalkG (rc : Nat → Int32 → Nat → Nat → Nat → (Nat → Nat → Int32) → (Nat → Int32) → XS) (w : Nat → Nat → Int32) (ms fi nx : Nat) (left : Int32) (pl st L : Nat) (a : Nat → Nat → Int32) (f : Nat → Int32) : XS :=
  if xMay a f fi pl nx = false then (a, f, w)
  else if left < xSame a w fi pl st nx + xNext a w ms fi pl st nx then
    (if left < xSame a w fi pl st nx then rc (nx + 1) left nx st (L + 1) (xAddA a L nx st) (va_up f 5 (nI (L + 1)))
     else rc (nx + 1) (left - xSame a w fi pl st nx) nx (st + 1) (L + 1) (xAddA a L nx (st + 1)) (va_up f 5 (nI (L + 1))))
  else rc (nx + 1) (left - (xSame a w fi pl st nx + xNext a w ms fi pl st nx)) pl st L a f
def xWalkL (w : Nat → Nat → Int32) (n ms fi : Nat) : Nat → Nat → Int32 → Nat → Nat → Nat → (Nat → Nat → Int32) → (Nat → Int32) → XS
  | 0, _, _, _, _, _, a, f => (a, f, w)
  | k + 1, nx, left, pl, st, L, a, f =>
    if nx < n then
      (if nx = pl + 1 ∧ st + 1 = ms then (if left = 0 then (a, f, w) else xWalkG (xWalkL w n ms fi k) w ms fi nx (left + Int32.ofInt (-1)) pl st L a f)
       else xWalkG (xWalkL w n ms fi k) w ms fi nx left pl st L a f)
    else (a, f, w)
section XWK
variable {rc : Nat → Int32 → Nat → Nat → Nat → (Nat → Nat → Int32) → (Nat → Int32) → XS} {w : Nat → Nat → Int32} {n ms fi k nx : Nat} {left : Int32} {pl st L : Nat} {a : Nat → Nat → Int32} {f : Nat → Int32}
theorem xWalkL_out (h : n ≤ nx) : xWalkL w n ms fi (k + 1) nx left pl st L a f = (a, f, w) := by rw [xWalkL, if_neg (by omega)]
theorem xWalkL_end (h : nx < n) (h1 : nx = pl + 1) (h2 : st + 1 = ms) (h3 : left = 0) : xWalkL w n ms fi (k + 1) nx left pl st L a f = (a, f, w) := by rw [xWalkL, if_pos h, if_pos ⟨h1, h2⟩, if_pos h3]
theorem xWalkL_go1 (h : nx < n) (h1 : ¬ (nx = pl + 1 ∧ st + 1 = ms)) : xWalkL w n ms fi (k + 1) nx left pl st L a f = xWalkG (xWalkL w n ms fi k) w ms fi nx left pl st L a f := by rw [xWalkL, if_pos h, if_neg h1]
theorem xWalkL_go2 (h : nx < n) (h1 : nx = pl + 1) (h2 : st + 1 = ms) (h3 : ¬ left = 0) : xWalkL w n ms fi (k + 1) nx left pl st L a f = xWalkG (xWalkL w n ms fi k) w ms fi nx (left + Int32.ofInt (-1)) pl st L a f := by rw [xWalkL, if_pos h, if_pos ⟨h1, h2⟩, if_neg h3]
theorem xWalkG_no (h : xMay a f fi pl nx = false) : xWalkG rc w ms fi nx left pl st L a f = (a, f, w) := by rw [xWalkG, if_pos h]
theorem xWalkG_skip (h : xMay a f fi pl nx = true) (h1 : ¬ left < xSame a w fi pl st nx + xNext a w ms fi pl st nx) : xWalkG rc w ms fi nx left pl st L a f = rc (nx + 1) (left - (xSame a w fi pl st nx + xNext a w ms fi pl st nx)) pl st L a f := by rw [xWalkG, if_neg (by rw [h]; decide), if_neg h1]
theorem xWalkG_same (h : xMay a f fi pl nx = true) (h1 : left < xSame a w fi pl st nx + xNext a w ms fi pl st nx) (h2 : left < xSame a w fi pl st nx) : xWalkG rc w ms fi nx left pl st L a f = rc (nx + 1) left nx st (L + 1) (xAddA a L nx st) (va_up f 5 (nI (L + 1))) := by rw [xWalkG, if_neg (by rw [h]; decide), if_pos h1, if_pos h2]
theorem xWalkG_next (h : xMay a f fi pl nx = true) (h1 : left < xSame a w fi pl st nx + xNext a w ms fi pl st nx) (h2 : ¬ left < xSame a w fi pl st nx) : xWalkG rc w ms fi nx left pl st L a f = rc (nx + 1) (left - xSame a w fi pl st nx) nx (st + 1) (L + 1) (xAddA a L nx (st + 1)) (va_up f 5 (nI (L + 1))) := by rw [xWalkG, if_neg (by rw [h]; decide), if_pos h1, if_neg h2]
end XWK
def xWalk (a : Nat → Nat → Int32) (f : Nat → Int32) (w : Nat → Nat → Int32) (n ms fi : Nat) (left : Int32) : XS := xWalkL w n ms fi (n + 1) (fi + 1) left fi 0 1 (xAddA a 0 fi 0) (va_up (va_up f 5 0) 5 (nI (0 + 1)))
set_option maxHeartbeats 4000000 in
set_option maxRecDepth 100000 in
theorem lX_walk (l : Launch) (dC : Nat → ClassId) (dI : Nat → Nat → Nat) (q : Nat → Nat) (cI cZ cG : ClassId) {p : Program} {e : Env} {s : State} {m : MethodId} {args : Array Value} {below : List Frame} {meth : Method} {c : Code} {Q : State → Prop} {A : Nat → Prop} (w : Nat → Nat → Int32) (n ms fi : Nat) (hn : n ≤ 16) (h0 : 1 ≤ ms) (hm : ms ≤ 5) {cells slots : Nat} (hcs : cells ≤ 0 ∧ slots ≤ 0) (hx : p.tables.exec = Jvm.exec) (hb : c.code = cX_walk) (hml : c.maxLocals = 9) (hown : s.vm.findClass "EventPatterns" = some m.cls) (hbw : ∀ w ∈ bw, w.before args s = true) (hK : va_K (dC, dI) cls2 (xt cI cZ cG) s) (hA : ∀ q : Nat, s.heap.size ≤ q → A q) :
    ∀ (k nx : Nat) (left : Int32) (pl st L : Nat) (a : Nat → Nat → Int32) (f : Nat → Int32) (H : Heap) (locs : List Loc) (ls : Array Slot), f 1 = nI n → f 4 = nI ms → f 5 = nI L → n ≤ nx + k → nx ≤ 16 → pl < nx → st < ms → L + fi ≤ nx → lv_has ls 9 [(6, .int (nI nx)), (5, .int (nI st)), (4, .int (nI pl)), (3, .int left), (0, .ref (q 0)), (1, .int (nI fi))] → va_P (dC, dI) cls2 (xw q cI cZ cG a f w) H → va_D A (xw q cI cZ cG a f w) → va_S A s.heap H locs →
      (∀ (H : Heap) (locs : List Loc) (ls : Array Slot) (pc : Nat), decode cX_walk pc = .ok (.return_, 1) → va_P (dC, dI) cls2 (xw q cI cZ cG (xWalkL w n ms fi (k + 1) nx left pl st L a f).1 (xWalkL w n ms fi (k + 1) nx left pl st L a f).2.1 (xWalkL w n ms fi (k + 1) nx left pl st L a f).2.2) H → va_D A (xw q cI cZ cG (xWalkL w n ms fi (k + 1) nx left pl st L a f).1 (xWalkL w n ms fi (k + 1) nx left pl st L a f).2.1 (xWalkL w n ms fi (k + 1) nx left pl st L a f).2.2) → va_S A s.heap H locs → W p l e ({ frames := 2, cells := 0, slots := 0, locals := 49 }) s m args below meth c H locs cells slots Q (F0 m pc ls [])) → W p l e ({ frames := 2, cells := 0, slots := 0, locals := 49 }) s m args below meth c H locs cells slots Q (F0 m 26 ls []) := by
  intro k
  induction k using Nat.strongRecOn with
  | ind k ih =>
    intro nx left pl st L a f H locs ls hf1 hf4 hf5 hk hnx hpl hst hL hl hP hD hS kk
    refine lv_iload hx hb dX_walk_26 (lv_at hl 0 rfl) ?_
    refine lv_aload_n hx hb dX_walk_28 rfl (lv_at hl 4 rfl) ?_
    refine va_get (D := (dC, dI)) (ci := 0) (v := .int (nI (n))) (C := "EventPatterns") (T := TX) (N := 16) hx hb hbw inX hown hK hP 0 rfl rfl 4 (by decide) (hbw _ kf_X_47) (fun _ h9 => h9) (congrArg (fun z => some (Value.int z)) (hf1)) dX_walk_29 ?_
    refine nr_icmp_ge (tgt := 149) hx hb (a1 := nx) (b1 := n) (by omega) (by omega) dX_walk_32 (by decide) (fun c_32 => ?_) (fun c_32 => ?_)
    · refine kk H locs ls 149 dX_walk_149 ?_ ?_ hS
      · rw [xWalkL_out c_32]; exact hP
      · rw [xWalkL_out c_32]; exact hD
    · refine lv_iload hx hb dX_walk_35 (lv_at hl 0 rfl) ?_
      refine lv_iload hx hb dX_walk_37 (lv_at hl 2 rfl) ?_
      refine lv_iconst (v := 1) hx hb dX_walk_39 (by decide) ?_
      refine nr_iadd hx hb (a1 := pl) (b1 := 1) dX_walk_40 ?_
      refine nr_icmp_ne (tgt := 61) hx hb (a1 := nx) (b1 := pl + 1) (by omega) (by omega) dX_walk_41 (by decide) (fun c_41 => ?_) (fun c_41 => ?_)
      · have eg : xWalkL w n ms fi (k + 1) nx left pl st L a f = xWalkG (xWalkL w n ms fi k) w ms fi nx (left) pl st L a f := by first | exact xWalkL_go1 (by omega) (fun h => c_41 h.1) | exact xWalkL_go1 (by omega) (fun h => of_decide_eq_false c_50 h.2)
        refine lv_aload_n hx hb dX_walk_61 rfl (lv_at hl 4 rfl) ?_
        refine lv_iload_n hx hb dX_walk_62 rfl (lv_at hl 5 rfl) ?_
        refine lv_iload hx hb dX_walk_63 (lv_at hl 2 rfl) ?_
        refine lv_iload hx hb dX_walk_65 (lv_at hl 0 rfl) ?_
        refine vp_callSi (W.runV (As := [.int (nI (fi)), .int (nI (pl)), .int (nI (nx))]) (rest := []) ⟨hx, hb, hml, hown, hbw⟩ (tX_mayFollow l dC dI q cI cZ cG (a) (f) w (fi) (pl) (nx) (by omega) (by omega) (by omega)) (cwV 3 hbw (bw_V km_X_138 ki_yX_mayFollow ksel_yX_mayFollow ki_EventPatterns kcX_mayFollow) rfl rfl rfl (by decide +kernel) ⟨Nat.le_of_ble_eq_true rfl, Nat.le_of_ble_eq_true rfl⟩) ⟨fun a U g mk q => by obtain ⟨q0, qP, qK⟩ := q; exact ⟨q0, qP, va_K.moved (u := U) (U := U.calling g mk a) (Vm.Alike.refl U.vm) qK⟩, va_recv hK hP (ci := 0) (q0 := 0) rfl rfl, fun U hU hW => ⟨rfl, by rw [hU]; exact hP, va_K.moved hW.alike hK⟩⟩ rfl rfl hl.1 rfl (lv_room (Nat.le_of_ble_eq_true rfl)) dX_walk_67 ⟨hcs.1, hcs.2⟩) (fun r_67 hq => ?_)
        subst hq
        refine nr_ifb_ne (tgt := 74) hx hb (b := (xMay (a) (f) (fi) (pl) (nx))) dX_walk_70 (by decide) (fun c_70 => ?_) (fun c_70 => ?_)
        · refine lv_aload_n hx hb dX_walk_74 rfl (lv_at hl 4 rfl) ?_
          refine lv_iload_n hx hb dX_walk_75 rfl (lv_at hl 5 rfl) ?_
          refine lv_iload hx hb dX_walk_76 (lv_at hl 2 rfl) ?_
          refine lv_iload hx hb dX_walk_78 (lv_at hl 1 rfl) ?_
          refine lv_iload hx hb dX_walk_80 (lv_at hl 0 rfl) ?_
          refine vp_callSi (W.runV (As := [.int (nI (fi)), .int (nI (pl)), .int (nI (st)), .int (nI (nx))]) (rest := []) ⟨hx, hb, hml, hown, hbw⟩ (tX_waysBySameStep l dC dI q cI cZ cG (a) (f) w (fi) (pl) (st) (nx) (by omega) (by omega) (by omega) (by omega)) (cwV 4 hbw (bw_V km_X_142 ki_yX_waysBySameStep ksel_yX_waysBySameStep ki_EventPatterns kcX_waysBySameStep) rfl rfl rfl (by decide +kernel) ⟨Nat.le_of_ble_eq_true rfl, Nat.le_of_ble_eq_true rfl⟩) ⟨fun a U g mk q => by obtain ⟨q0, qP, qK⟩ := q; exact ⟨q0, qP, va_K.moved (u := U) (U := U.calling g mk a) (Vm.Alike.refl U.vm) qK⟩, va_recv hK hP (ci := 0) (q0 := 0) rfl rfl, fun U hU hW => ⟨rfl, by rw [hU]; exact hP, va_K.moved hW.alike hK⟩⟩ rfl rfl hl.1 rfl (lv_room (Nat.le_of_ble_eq_true rfl)) dX_walk_82 ⟨hcs.1, hcs.2⟩) (fun r_82 hq => ?_)
          subst hq
          refine lv_istore (lv' := [(7, .int (xSame (a) w (fi) (pl) (st) (nx))), (6, .int (nI (nx))), (5, .int (nI (st))), (4, .int (nI (pl))), (3, .int (left)), (0, .ref (q 0)), (1, .int (nI (fi)))]) hx hb dX_walk_85 hl (by decide) rfl (fun ls hl => ?_)
          refine lv_iload hx hb dX_walk_87 (lv_at hl 0 rfl) ?_
          refine lv_aload_n hx hb dX_walk_89 rfl (lv_at hl 5 rfl) ?_
          refine lv_iload_n hx hb dX_walk_90 rfl (lv_at hl 6 rfl) ?_
          refine lv_iload hx hb dX_walk_91 (lv_at hl 3 rfl) ?_
          refine lv_iload hx hb dX_walk_93 (lv_at hl 2 rfl) ?_
          refine lv_iload hx hb dX_walk_95 (lv_at hl 1 rfl) ?_
          refine vp_callSi (W.runV (As := [.int (nI (fi)), .int (nI (pl)), .int (nI (st)), .int (nI (nx))]) (rest := [.int (xSame (a) w (fi) (pl) (st) (nx))]) ⟨hx, hb, hml, hown, hbw⟩ (tX_waysByNextStep l dC dI q cI cZ cG (a) (f) w ms (fi) (pl) (st) (nx) h0 hm hf4 (by omega) (by omega) (by omega) (by omega)) (cwV 4 hbw (bw_V km_X_145 ki_yX_waysByNextStep ksel_yX_waysByNextStep ki_EventPatterns kcX_waysByNextStep) rfl rfl rfl (by decide +kernel) ⟨Nat.le_of_ble_eq_true rfl, Nat.le_of_ble_eq_true rfl⟩) ⟨fun a U g mk q => by obtain ⟨q0, qP, qK⟩ := q; exact ⟨q0, qP, va_K.moved (u := U) (U := U.calling g mk a) (Vm.Alike.refl U.vm) qK⟩, va_recv hK hP (ci := 0) (q0 := 0) rfl rfl, fun U hU hW => ⟨rfl, by rw [hU]; exact hP, va_K.moved hW.alike hK⟩⟩ rfl rfl hl.1 rfl (lv_room (Nat.le_of_ble_eq_true rfl)) dX_walk_97 ⟨hcs.1, hcs.2⟩) (fun r_97 hq => ?_)
          subst hq
          refine lv_iadd hx hb dX_walk_100 ?_
          refine lv_istore (lv' := [(8, .int ((xSame (a) w (fi) (pl) (st) (nx)) + (xNext (a) w ms (fi) (pl) (st) (nx)))), (7, .int (xSame (a) w (fi) (pl) (st) (nx))), (6, .int (nI (nx))), (5, .int (nI (st))), (4, .int (nI (pl))), (3, .int (left)), (0, .ref (q 0)), (1, .int (nI (fi)))]) hx hb dX_walk_101 hl (by decide) rfl (fun ls hl => ?_)
          refine lv_iload_n hx hb dX_walk_103 rfl (lv_at hl 5 rfl) ?_
          refine lv_iload hx hb dX_walk_104 (lv_at hl 0 rfl) ?_
          refine lv_icmp_lt (tgt := 117) hx hb dX_walk_106 (by decide) (fun c_106 => ?_) (fun c_106 => ?_)
          · refine lv_iload_n hx hb dX_walk_117 rfl (lv_at hl 5 rfl) ?_
            refine lv_iload hx hb dX_walk_118 (lv_at hl 1 rfl) ?_
            refine lv_icmp_lt (tgt := 131) hx hb dX_walk_120 (by decide) (fun c_120 => ?_) (fun c_120 => ?_)
            · refine lv_iload hx hb dX_walk_131 (lv_at hl 2 rfl) ?_
              refine lv_istore (lv' := [(4, .int (nI (nx))), (8, .int ((xSame (a) w (fi) (pl) (st) (nx)) + (xNext (a) w ms (fi) (pl) (st) (nx)))), (7, .int (xSame (a) w (fi) (pl) (st) (nx))), (6, .int (nI (nx))), (5, .int (nI (st))), (3, .int (left)), (0, .ref (q 0)), (1, .int (nI (fi)))]) hx hb dX_walk_133 hl (by decide) rfl (fun ls hl => ?_)
              refine lv_aload_n hx hb dX_walk_135 rfl (lv_at hl 6 rfl) ?_
              refine lv_iload hx hb dX_walk_136 (lv_at hl 0 rfl) ?_
              refine lv_iload hx hb dX_walk_138 (lv_at hl 4 rfl) ?_
              have hFc := va_free (wc := xw q cI cZ cG (a) (f) (w)) hD hS hA (List.range 27) rfl
              refine va_callv (va_runV (As := [.int (nI (nx)), .int (nI (st))]) (rest := []) ⟨hx, hb, hml, hown, hbw⟩ (tX_addFound l dC dI q cI cZ cG (a) (f) w H.size (L) (nx) (st) (by omega) (hf5)) (cwV 2 hbw (bw_V km_X_152 ki_yX_addFound ksel_yX_addFound ki_EventPatterns kcX_addFound) rfl rfl rfl (by decide +kernel) ⟨Nat.le_of_ble_eq_true rfl, Nat.le_of_ble_eq_true rfl⟩) ⟨fun a U g mk q => by obtain ⟨q0, q1, qP, qK, qD⟩ := q; exact ⟨q0, q1, qP, va_K.moved (u := U) (U := U.calling g mk a) (Vm.Alike.refl U.vm) qK, qD⟩, va_recv hK hP (ci := 0) (q0 := 0) rfl rfl, fun U hU hW => ⟨rfl, by rw [hU], by rw [hU]; exact hP, va_K.moved hW.alike hK, hD.weaken (fun _ _ _ _ => trivial)⟩⟩ rfl rfl hl.1 rfl (lv_room (Nat.le_of_ble_eq_true rfl)) dX_walk_140 ⟨hcs.1, hcs.2⟩) hS (fun q _ h => hFc q h) hFc (fun u t H1 locs ht hvm hq hB hz1 hk1 hS => ?_)
              rw [if_pos (by omega)] at hq
              obtain rfl := hq
              obtain ⟨hP1, hK1, hD1⟩ := hB
              rw [ht] at hP1
              have hP : va_P (dC, dI) cls2 (xw q cI cZ cG (xAddA (a) (L) (nx) (st)) (va_up (f) 5 (nI (L + 1))) (w)) H1 := hP1
              have hD : va_D A (xw q cI cZ cG (xAddA (a) (L) (nx) (st)) (va_up (f) 5 (nI (L + 1))) (w)) := hD1.weaken (fun _ _ _ h => hFc _ h)
              generalize H1 = H at hP hS ⊢
              refine lv_iinc (v := nI (nx + 1)) (lv' := [(6, .int (nI (nx + 1))), (4, .int (nI (nx))), (8, .int ((xSame (a) w (fi) (pl) (st) (nx)) + (xNext (a) w ms (fi) (pl) (st) (nx)))), (7, .int (xSame (a) w (fi) (pl) (st) (nx))), (5, .int (nI (st))), (3, .int (left)), (0, .ref (q 0)), (1, .int (nI (fi)))]) hx hb dX_walk_143 hl (k := 3) rfl (nI_1 _) (by decide) rfl (fun ls hl => ?_)
              refine lv_goto (tgt := 26) hx hb dX_walk_146 (by decide) ?_
              refine ih (k - 1) (by omega) (nx + 1) _ (nx) (st) (L + 1) (xAddA (a) (L) (nx) (st)) (va_up (f) 5 (nI (L + 1))) _ _ ls hf1 hf4 rfl (by omega) (by omega) (by omega) (by omega) (by omega) (lv_sub hl [0, 4, 1, 5, 6, 7] rfl) hP hD hS (fun H locs ls pc hd hP hD hS => kk H locs ls pc hd ?_ ?_ hS)
              · rw [eg, xWalkG_same c_70 c_106 c_120]
                rw [show k - 1 + 1 = k from by omega] at hP
                exact hP
              · rw [eg, xWalkG_same c_70 c_106 c_120]
                rw [show k - 1 + 1 = k from by omega] at hD
                exact hD
            · have hst2 : st + 1 < ms := by
                rcases Nat.lt_or_ge (st + 1) ms with h9 | h9
                · exact h9
                · exfalso
                  have e0 : xNext a w ms fi pl st nx = 0 := by rw [xNext, if_pos (Or.inl (by omega))]
                  rw [e0, Int32.add_zero] at c_106
                  exact c_120 c_106
              refine lv_iload_n hx hb dX_walk_123 rfl (lv_at hl 5 rfl) ?_
              refine lv_iload hx hb dX_walk_124 (lv_at hl 1 rfl) ?_
              refine lv_isub hx hb dX_walk_126 ?_
              refine lv_istore_n (lv' := [(3, .int ((left) - (xSame (a) w (fi) (pl) (st) (nx)))), (8, .int ((xSame (a) w (fi) (pl) (st) (nx)) + (xNext (a) w ms (fi) (pl) (st) (nx)))), (7, .int (xSame (a) w (fi) (pl) (st) (nx))), (6, .int (nI (nx))), (5, .int (nI (st))), (4, .int (nI (pl))), (0, .ref (q 0)), (1, .int (nI (fi)))]) hx hb dX_walk_127 rfl hl (by decide) rfl (fun ls hl => ?_)
              refine lv_iinc (v := nI (st + 1)) (lv' := [(5, .int (nI (st + 1))), (3, .int ((left) - (xSame (a) w (fi) (pl) (st) (nx)))), (8, .int ((xSame (a) w (fi) (pl) (st) (nx)) + (xNext (a) w ms (fi) (pl) (st) (nx)))), (7, .int (xSame (a) w (fi) (pl) (st) (nx))), (6, .int (nI (nx))), (4, .int (nI (pl))), (0, .ref (q 0)), (1, .int (nI (fi)))]) hx hb dX_walk_128 hl (k := 4) rfl (nI_1 _) (by decide) rfl (fun ls hl => ?_)
              refine lv_iload hx hb dX_walk_131 (lv_at hl 4 rfl) ?_
              refine lv_istore (lv' := [(4, .int (nI (nx))), (5, .int (nI (st + 1))), (3, .int ((left) - (xSame (a) w (fi) (pl) (st) (nx)))), (8, .int ((xSame (a) w (fi) (pl) (st) (nx)) + (xNext (a) w ms (fi) (pl) (st) (nx)))), (7, .int (xSame (a) w (fi) (pl) (st) (nx))), (6, .int (nI (nx))), (0, .ref (q 0)), (1, .int (nI (fi)))]) hx hb dX_walk_133 hl (by decide) rfl (fun ls hl => ?_)
              refine lv_aload_n hx hb dX_walk_135 rfl (lv_at hl 6 rfl) ?_
              refine lv_iload hx hb dX_walk_136 (lv_at hl 0 rfl) ?_
              refine lv_iload hx hb dX_walk_138 (lv_at hl 1 rfl) ?_
              have hFc := va_free (wc := xw q cI cZ cG (a) (f) (w)) hD hS hA (List.range 27) rfl
              refine va_callv (va_runV (As := [.int (nI (nx)), .int (nI (st + 1))]) (rest := []) ⟨hx, hb, hml, hown, hbw⟩ (tX_addFound l dC dI q cI cZ cG (a) (f) w H.size (L) (nx) (st + 1) (by omega) (hf5)) (cwV 2 hbw (bw_V km_X_152 ki_yX_addFound ksel_yX_addFound ki_EventPatterns kcX_addFound) rfl rfl rfl (by decide +kernel) ⟨Nat.le_of_ble_eq_true rfl, Nat.le_of_ble_eq_true rfl⟩) ⟨fun a U g mk q => by obtain ⟨q0, q1, qP, qK, qD⟩ := q; exact ⟨q0, q1, qP, va_K.moved (u := U) (U := U.calling g mk a) (Vm.Alike.refl U.vm) qK, qD⟩, va_recv hK hP (ci := 0) (q0 := 0) rfl rfl, fun U hU hW => ⟨rfl, by rw [hU], by rw [hU]; exact hP, va_K.moved hW.alike hK, hD.weaken (fun _ _ _ _ => trivial)⟩⟩ rfl rfl hl.1 rfl (lv_room (Nat.le_of_ble_eq_true rfl)) dX_walk_140 ⟨hcs.1, hcs.2⟩) hS (fun q _ h => hFc q h) hFc (fun u t H1 locs ht hvm hq hB hz1 hk1 hS => ?_)
              rw [if_pos (by omega)] at hq
              obtain rfl := hq
              obtain ⟨hP1, hK1, hD1⟩ := hB
              rw [ht] at hP1
              have hP : va_P (dC, dI) cls2 (xw q cI cZ cG (xAddA (a) (L) (nx) (st + 1)) (va_up (f) 5 (nI (L + 1))) (w)) H1 := hP1
              have hD : va_D A (xw q cI cZ cG (xAddA (a) (L) (nx) (st + 1)) (va_up (f) 5 (nI (L + 1))) (w)) := hD1.weaken (fun _ _ _ h => hFc _ h)
              generalize H1 = H at hP hS ⊢
              refine lv_iinc (v := nI (nx + 1)) (lv' := [(6, .int (nI (nx + 1))), (4, .int (nI (nx))), (5, .int (nI (st + 1))), (3, .int ((left) - (xSame (a) w (fi) (pl) (st) (nx)))), (8, .int ((xSame (a) w (fi) (pl) (st) (nx)) + (xNext (a) w ms (fi) (pl) (st) (nx)))), (7, .int (xSame (a) w (fi) (pl) (st) (nx))), (0, .ref (q 0)), (1, .int (nI (fi)))]) hx hb dX_walk_143 hl (k := 5) rfl (nI_1 _) (by decide) rfl (fun ls hl => ?_)
              refine lv_goto (tgt := 26) hx hb dX_walk_146 (by decide) ?_
              refine ih (k - 1) (by omega) (nx + 1) _ (nx) (st + 1) (L + 1) (xAddA (a) (L) (nx) (st + 1)) (va_up (f) 5 (nI (L + 1))) _ _ ls hf1 hf4 rfl (by omega) (by omega) (by omega) (by omega) (by omega) (lv_sub hl [0, 2, 1, 3, 6, 7] rfl) hP hD hS (fun H locs ls pc hd hP hD hS => kk H locs ls pc hd ?_ ?_ hS)
              · rw [eg, xWalkG_next c_70 c_106 c_120]
                rw [show k - 1 + 1 = k from by omega] at hP
                exact hP
              · rw [eg, xWalkG_next c_70 c_106 c_120]
                rw [show k - 1 + 1 = k from by omega] at hD
                exact hD
          · refine lv_iload_n hx hb dX_walk_109 rfl (lv_at hl 5 rfl) ?_
            refine lv_iload hx hb dX_walk_110 (lv_at hl 0 rfl) ?_
            refine lv_isub hx hb dX_walk_112 ?_
            refine lv_istore_n (lv' := [(3, .int ((left) - ((xSame (a) w (fi) (pl) (st) (nx)) + (xNext (a) w ms (fi) (pl) (st) (nx))))), (8, .int ((xSame (a) w (fi) (pl) (st) (nx)) + (xNext (a) w ms (fi) (pl) (st) (nx)))), (7, .int (xSame (a) w (fi) (pl) (st) (nx))), (6, .int (nI (nx))), (5, .int (nI (st))), (4, .int (nI (pl))), (0, .ref (q 0)), (1, .int (nI (fi)))]) hx hb dX_walk_113 rfl hl (by decide) rfl (fun ls hl => ?_)
            refine lv_goto (tgt := 143) hx hb dX_walk_114 (by decide) ?_
            refine lv_iinc (v := nI (nx + 1)) (lv' := [(6, .int (nI (nx + 1))), (3, .int ((left) - ((xSame (a) w (fi) (pl) (st) (nx)) + (xNext (a) w ms (fi) (pl) (st) (nx))))), (8, .int ((xSame (a) w (fi) (pl) (st) (nx)) + (xNext (a) w ms (fi) (pl) (st) (nx)))), (7, .int (xSame (a) w (fi) (pl) (st) (nx))), (5, .int (nI (st))), (4, .int (nI (pl))), (0, .ref (q 0)), (1, .int (nI (fi)))]) hx hb dX_walk_143 hl (k := 3) rfl (nI_1 _) (by decide) rfl (fun ls hl => ?_)
            refine lv_goto (tgt := 26) hx hb dX_walk_146 (by decide) ?_
            refine ih (k - 1) (by omega) (nx + 1) _ (pl) (st) L (a) (f) _ _ ls hf1 hf4 hf5 (by omega) (by omega) (by omega) (by omega) (by omega) (lv_sub hl [0, 4, 5, 1, 6, 7] rfl) hP hD hS (fun H locs ls pc hd hP hD hS => kk H locs ls pc hd ?_ ?_ hS)
            · rw [eg, xWalkG_skip c_70 c_106]
              rw [show k - 1 + 1 = k from by omega] at hP
              exact hP
            · rw [eg, xWalkG_skip c_70 c_106]
              rw [show k - 1 + 1 = k from by omega] at hD
              exact hD
        · refine kk H locs ls 73 dX_walk_73 ?_ ?_ hS
          · rw [eg, xWalkG_no c_70]; exact hP
          · rw [eg, xWalkG_no c_70]; exact hD
      · refine lv_aload_n hx hb dX_walk_44 rfl (lv_at hl 4 rfl) ?_
        refine lv_iload hx hb dX_walk_45 (lv_at hl 1 rfl) ?_
        refine vp_callSi (W.runV (As := [.int (nI (st))]) (rest := []) ⟨hx, hb, hml, hown, hbw⟩ (tX_isLastStep l dC dI q cI cZ cG (a) (f) w ms (st) h0 hm hf4 (by omega)) (cwV 1 hbw (bw_V km_X_135 ki_yX_isLastStep ksel_yX_isLastStep ki_EventPatterns kcX_isLastStep) rfl rfl rfl (by decide +kernel) ⟨Nat.le_of_ble_eq_true rfl, Nat.le_of_ble_eq_true rfl⟩) ⟨fun a U g mk q => by obtain ⟨q0, qP, qK⟩ := q; exact ⟨q0, qP, va_K.moved (u := U) (U := U.calling g mk a) (Vm.Alike.refl U.vm) qK⟩, va_recv hK hP (ci := 0) (q0 := 0) rfl rfl, fun U hU hW => ⟨rfl, by rw [hU]; exact hP, va_K.moved hW.alike hK⟩⟩ rfl rfl hl.1 rfl (lv_room (Nat.le_of_ble_eq_true rfl)) dX_walk_47 ⟨hcs.1, hcs.2⟩) (fun r_47 hq => ?_)
        subst hq
        refine nr_ifb_eq (tgt := 61) hx hb (b := (decide ((st) + 1 = ms))) dX_walk_50 (by decide) (fun c_50 => ?_) (fun c_50 => ?_)
        · have eg : xWalkL w n ms fi (k + 1) nx left pl st L a f = xWalkG (xWalkL w n ms fi k) w ms fi nx (left) pl st L a f := by first | exact xWalkL_go1 (by omega) (fun h => c_41 h.1) | exact xWalkL_go1 (by omega) (fun h => of_decide_eq_false c_50 h.2)
          refine lv_aload_n hx hb dX_walk_61 rfl (lv_at hl 4 rfl) ?_
          refine lv_iload_n hx hb dX_walk_62 rfl (lv_at hl 5 rfl) ?_
          refine lv_iload hx hb dX_walk_63 (lv_at hl 2 rfl) ?_
          refine lv_iload hx hb dX_walk_65 (lv_at hl 0 rfl) ?_
          refine vp_callSi (W.runV (As := [.int (nI (fi)), .int (nI (pl)), .int (nI (nx))]) (rest := []) ⟨hx, hb, hml, hown, hbw⟩ (tX_mayFollow l dC dI q cI cZ cG (a) (f) w (fi) (pl) (nx) (by omega) (by omega) (by omega)) (cwV 3 hbw (bw_V km_X_138 ki_yX_mayFollow ksel_yX_mayFollow ki_EventPatterns kcX_mayFollow) rfl rfl rfl (by decide +kernel) ⟨Nat.le_of_ble_eq_true rfl, Nat.le_of_ble_eq_true rfl⟩) ⟨fun a U g mk q => by obtain ⟨q0, qP, qK⟩ := q; exact ⟨q0, qP, va_K.moved (u := U) (U := U.calling g mk a) (Vm.Alike.refl U.vm) qK⟩, va_recv hK hP (ci := 0) (q0 := 0) rfl rfl, fun U hU hW => ⟨rfl, by rw [hU]; exact hP, va_K.moved hW.alike hK⟩⟩ rfl rfl hl.1 rfl (lv_room (Nat.le_of_ble_eq_true rfl)) dX_walk_67 ⟨hcs.1, hcs.2⟩) (fun r_67 hq => ?_)
          subst hq
          refine nr_ifb_ne (tgt := 74) hx hb (b := (xMay (a) (f) (fi) (pl) (nx))) dX_walk_70 (by decide) (fun c_70 => ?_) (fun c_70 => ?_)
          · refine lv_aload_n hx hb dX_walk_74 rfl (lv_at hl 4 rfl) ?_
            refine lv_iload_n hx hb dX_walk_75 rfl (lv_at hl 5 rfl) ?_
            refine lv_iload hx hb dX_walk_76 (lv_at hl 2 rfl) ?_
            refine lv_iload hx hb dX_walk_78 (lv_at hl 1 rfl) ?_
            refine lv_iload hx hb dX_walk_80 (lv_at hl 0 rfl) ?_
            refine vp_callSi (W.runV (As := [.int (nI (fi)), .int (nI (pl)), .int (nI (st)), .int (nI (nx))]) (rest := []) ⟨hx, hb, hml, hown, hbw⟩ (tX_waysBySameStep l dC dI q cI cZ cG (a) (f) w (fi) (pl) (st) (nx) (by omega) (by omega) (by omega) (by omega)) (cwV 4 hbw (bw_V km_X_142 ki_yX_waysBySameStep ksel_yX_waysBySameStep ki_EventPatterns kcX_waysBySameStep) rfl rfl rfl (by decide +kernel) ⟨Nat.le_of_ble_eq_true rfl, Nat.le_of_ble_eq_true rfl⟩) ⟨fun a U g mk q => by obtain ⟨q0, qP, qK⟩ := q; exact ⟨q0, qP, va_K.moved (u := U) (U := U.calling g mk a) (Vm.Alike.refl U.vm) qK⟩, va_recv hK hP (ci := 0) (q0 := 0) rfl rfl, fun U hU hW => ⟨rfl, by rw [hU]; exact hP, va_K.moved hW.alike hK⟩⟩ rfl rfl hl.1 rfl (lv_room (Nat.le_of_ble_eq_true rfl)) dX_walk_82 ⟨hcs.1, hcs.2⟩) (fun r_82 hq => ?_)
            subst hq
            refine lv_istore (lv' := [(7, .int (xSame (a) w (fi) (pl) (st) (nx))), (6, .int (nI (nx))), (5, .int (nI (st))), (4, .int (nI (pl))), (3, .int (left)), (0, .ref (q 0)), (1, .int (nI (fi)))]) hx hb dX_walk_85 hl (by decide) rfl (fun ls hl => ?_)
            refine lv_iload hx hb dX_walk_87 (lv_at hl 0 rfl) ?_
            refine lv_aload_n hx hb dX_walk_89 rfl (lv_at hl 5 rfl) ?_
            refine lv_iload_n hx hb dX_walk_90 rfl (lv_at hl 6 rfl) ?_
            refine lv_iload hx hb dX_walk_91 (lv_at hl 3 rfl) ?_
            refine lv_iload hx hb dX_walk_93 (lv_at hl 2 rfl) ?_
            refine lv_iload hx hb dX_walk_95 (lv_at hl 1 rfl) ?_
            refine vp_callSi (W.runV (As := [.int (nI (fi)), .int (nI (pl)), .int (nI (st)), .int (nI (nx))]) (rest := [.int (xSame (a) w (fi) (pl) (st) (nx))]) ⟨hx, hb, hml, hown, hbw⟩ (tX_waysByNextStep l dC dI q cI cZ cG (a) (f) w ms (fi) (pl) (st) (nx) h0 hm hf4 (by omega) (by omega) (by omega) (by omega)) (cwV 4 hbw (bw_V km_X_145 ki_yX_waysByNextStep ksel_yX_waysByNextStep ki_EventPatterns kcX_waysByNextStep) rfl rfl rfl (by decide +kernel) ⟨Nat.le_of_ble_eq_true rfl, Nat.le_of_ble_eq_true rfl⟩) ⟨fun a U g mk q => by obtain ⟨q0, qP, qK⟩ := q; exact ⟨q0, qP, va_K.moved (u := U) (U := U.calling g mk a) (Vm.Alike.refl U.vm) qK⟩, va_recv hK hP (ci := 0) (q0 := 0) rfl rfl, fun U hU hW => ⟨rfl, by rw [hU]; exact hP, va_K.moved hW.alike hK⟩⟩ rfl rfl hl.1 rfl (lv_room (Nat.le_of_ble_eq_true rfl)) dX_walk_97 ⟨hcs.1, hcs.2⟩) (fun r_97 hq => ?_)
            subst hq
            refine lv_iadd hx hb dX_walk_100 ?_
            refine lv_istore (lv' := [(8, .int ((xSame (a) w (fi) (pl) (st) (nx)) + (xNext (a) w ms (fi) (pl) (st) (nx)))), (7, .int (xSame (a) w (fi) (pl) (st) (nx))), (6, .int (nI (nx))), (5, .int (nI (st))), (4, .int (nI (pl))), (3, .int (left)), (0, .ref (q 0)), (1, .int (nI (fi)))]) hx hb dX_walk_101 hl (by decide) rfl (fun ls hl => ?_)
            refine lv_iload_n hx hb dX_walk_103 rfl (lv_at hl 5 rfl) ?_
            refine lv_iload hx hb dX_walk_104 (lv_at hl 0 rfl) ?_
            refine lv_icmp_lt (tgt := 117) hx hb dX_walk_106 (by decide) (fun c_106 => ?_) (fun c_106 => ?_)
            · refine lv_iload_n hx hb dX_walk_117 rfl (lv_at hl 5 rfl) ?_
              refine lv_iload hx hb dX_walk_118 (lv_at hl 1 rfl) ?_
              refine lv_icmp_lt (tgt := 131) hx hb dX_walk_120 (by decide) (fun c_120 => ?_) (fun c_120 => ?_)
              · refine lv_iload hx hb dX_walk_131 (lv_at hl 2 rfl) ?_
                refine lv_istore (lv' := [(4, .int (nI (nx))), (8, .int ((xSame (a) w (fi) (pl) (st) (nx)) + (xNext (a) w ms (fi) (pl) (st) (nx)))), (7, .int (xSame (a) w (fi) (pl) (st) (nx))), (6, .int (nI (nx))), (5, .int (nI (st))), (3, .int (left)), (0, .ref (q 0)), (1, .int (nI (fi)))]) hx hb dX_walk_133 hl (by decide) rfl (fun ls hl => ?_)
                refine lv_aload_n hx hb dX_walk_135 rfl (lv_at hl 6 rfl) ?_
                refine lv_iload hx hb dX_walk_136 (lv_at hl 0 rfl) ?_
                refine lv_iload hx hb dX_walk_138 (lv_at hl 4 rfl) ?_
                have hFc := va_free (wc := xw q cI cZ cG (a) (f) (w)) hD hS hA (List.range 27) rfl
                refine va_callv (va_runV (As := [.int (nI (nx)), .int (nI (st))]) (rest := []) ⟨hx, hb, hml, hown, hbw⟩ (tX_addFound l dC dI q cI cZ cG (a) (f) w H.size (L) (nx) (st) (by omega) (hf5)) (cwV 2 hbw (bw_V km_X_152 ki_yX_addFound ksel_yX_addFound ki_EventPatterns kcX_addFound) rfl rfl rfl (by decide +kernel) ⟨Nat.le_of_ble_eq_true rfl, Nat.le_of_ble_eq_true rfl⟩) ⟨fun a U g mk q => by obtain ⟨q0, q1, qP, qK, qD⟩ := q; exact ⟨q0, q1, qP, va_K.moved (u := U) (U := U.calling g mk a) (Vm.Alike.refl U.vm) qK, qD⟩, va_recv hK hP (ci := 0) (q0 := 0) rfl rfl, fun U hU hW => ⟨rfl, by rw [hU], by rw [hU]; exact hP, va_K.moved hW.alike hK, hD.weaken (fun _ _ _ _ => trivial)⟩⟩ rfl rfl hl.1 rfl (lv_room (Nat.le_of_ble_eq_true rfl)) dX_walk_140 ⟨hcs.1, hcs.2⟩) hS (fun q _ h => hFc q h) hFc (fun u t H1 locs ht hvm hq hB hz1 hk1 hS => ?_)
                rw [if_pos (by omega)] at hq
                obtain rfl := hq
                obtain ⟨hP1, hK1, hD1⟩ := hB
                rw [ht] at hP1
                have hP : va_P (dC, dI) cls2 (xw q cI cZ cG (xAddA (a) (L) (nx) (st)) (va_up (f) 5 (nI (L + 1))) (w)) H1 := hP1
                have hD : va_D A (xw q cI cZ cG (xAddA (a) (L) (nx) (st)) (va_up (f) 5 (nI (L + 1))) (w)) := hD1.weaken (fun _ _ _ h => hFc _ h)
                generalize H1 = H at hP hS ⊢
                refine lv_iinc (v := nI (nx + 1)) (lv' := [(6, .int (nI (nx + 1))), (4, .int (nI (nx))), (8, .int ((xSame (a) w (fi) (pl) (st) (nx)) + (xNext (a) w ms (fi) (pl) (st) (nx)))), (7, .int (xSame (a) w (fi) (pl) (st) (nx))), (5, .int (nI (st))), (3, .int (left)), (0, .ref (q 0)), (1, .int (nI (fi)))]) hx hb dX_walk_143 hl (k := 3) rfl (nI_1 _) (by decide) rfl (fun ls hl => ?_)
                refine lv_goto (tgt := 26) hx hb dX_walk_146 (by decide) ?_
                refine ih (k - 1) (by omega) (nx + 1) _ (nx) (st) (L + 1) (xAddA (a) (L) (nx) (st)) (va_up (f) 5 (nI (L + 1))) _ _ ls hf1 hf4 rfl (by omega) (by omega) (by omega) (by omega) (by omega) (lv_sub hl [0, 4, 1, 5, 6, 7] rfl) hP hD hS (fun H locs ls pc hd hP hD hS => kk H locs ls pc hd ?_ ?_ hS)
                · rw [eg, xWalkG_same c_70 c_106 c_120]
                  rw [show k - 1 + 1 = k from by omega] at hP
                  exact hP
                · rw [eg, xWalkG_same c_70 c_106 c_120]
                  rw [show k - 1 + 1 = k from by omega] at hD
                  exact hD
              · have hst2 : st + 1 < ms := by
                  rcases Nat.lt_or_ge (st + 1) ms with h9 | h9
                  · exact h9
                  · exfalso
                    have e0 : xNext a w ms fi pl st nx = 0 := by rw [xNext, if_pos (Or.inl (by omega))]
                    rw [e0, Int32.add_zero] at c_106
                    exact c_120 c_106
                refine lv_iload_n hx hb dX_walk_123 rfl (lv_at hl 5 rfl) ?_
                refine lv_iload hx hb dX_walk_124 (lv_at hl 1 rfl) ?_
                refine lv_isub hx hb dX_walk_126 ?_
                refine lv_istore_n (lv' := [(3, .int ((left) - (xSame (a) w (fi) (pl) (st) (nx)))), (8, .int ((xSame (a) w (fi) (pl) (st) (nx)) + (xNext (a) w ms (fi) (pl) (st) (nx)))), (7, .int (xSame (a) w (fi) (pl) (st) (nx))), (6, .int (nI (nx))), (5, .int (nI (st))), (4, .int (nI (pl))), (0, .ref (q 0)), (1, .int (nI (fi)))]) hx hb dX_walk_127 rfl hl (by decide) rfl (fun ls hl => ?_)
                refine lv_iinc (v := nI (st + 1)) (lv' := [(5, .int (nI (st + 1))), (3, .int ((left) - (xSame (a) w (fi) (pl) (st) (nx)))), (8, .int ((xSame (a) w (fi) (pl) (st) (nx)) + (xNext (a) w ms (fi) (pl) (st) (nx)))), (7, .int (xSame (a) w (fi) (pl) (st) (nx))), (6, .int (nI (nx))), (4, .int (nI (pl))), (0, .ref (q 0)), (1, .int (nI (fi)))]) hx hb dX_walk_128 hl (k := 4) rfl (nI_1 _) (by decide) rfl (fun ls hl => ?_)
                refine lv_iload hx hb dX_walk_131 (lv_at hl 4 rfl) ?_
                refine lv_istore (lv' := [(4, .int (nI (nx))), (5, .int (nI (st + 1))), (3, .int ((left) - (xSame (a) w (fi) (pl) (st) (nx)))), (8, .int ((xSame (a) w (fi) (pl) (st) (nx)) + (xNext (a) w ms (fi) (pl) (st) (nx)))), (7, .int (xSame (a) w (fi) (pl) (st) (nx))), (6, .int (nI (nx))), (0, .ref (q 0)), (1, .int (nI (fi)))]) hx hb dX_walk_133 hl (by decide) rfl (fun ls hl => ?_)
                refine lv_aload_n hx hb dX_walk_135 rfl (lv_at hl 6 rfl) ?_
                refine lv_iload hx hb dX_walk_136 (lv_at hl 0 rfl) ?_
                refine lv_iload hx hb dX_walk_138 (lv_at hl 1 rfl) ?_
                have hFc := va_free (wc := xw q cI cZ cG (a) (f) (w)) hD hS hA (List.range 27) rfl
                refine va_callv (va_runV (As := [.int (nI (nx)), .int (nI (st + 1))]) (rest := []) ⟨hx, hb, hml, hown, hbw⟩ (tX_addFound l dC dI q cI cZ cG (a) (f) w H.size (L) (nx) (st + 1) (by omega) (hf5)) (cwV 2 hbw (bw_V km_X_152 ki_yX_addFound ksel_yX_addFound ki_EventPatterns kcX_addFound) rfl rfl rfl (by decide +kernel) ⟨Nat.le_of_ble_eq_true rfl, Nat.le_of_ble_eq_true rfl⟩) ⟨fun a U g mk q => by obtain ⟨q0, q1, qP, qK, qD⟩ := q; exact ⟨q0, q1, qP, va_K.moved (u := U) (U := U.calling g mk a) (Vm.Alike.refl U.vm) qK, qD⟩, va_recv hK hP (ci := 0) (q0 := 0) rfl rfl, fun U hU hW => ⟨rfl, by rw [hU], by rw [hU]; exact hP, va_K.moved hW.alike hK, hD.weaken (fun _ _ _ _ => trivial)⟩⟩ rfl rfl hl.1 rfl (lv_room (Nat.le_of_ble_eq_true rfl)) dX_walk_140 ⟨hcs.1, hcs.2⟩) hS (fun q _ h => hFc q h) hFc (fun u t H1 locs ht hvm hq hB hz1 hk1 hS => ?_)
                rw [if_pos (by omega)] at hq
                obtain rfl := hq
                obtain ⟨hP1, hK1, hD1⟩ := hB
                rw [ht] at hP1
                have hP : va_P (dC, dI) cls2 (xw q cI cZ cG (xAddA (a) (L) (nx) (st + 1)) (va_up (f) 5 (nI (L + 1))) (w)) H1 := hP1
                have hD : va_D A (xw q cI cZ cG (xAddA (a) (L) (nx) (st + 1)) (va_up (f) 5 (nI (L + 1))) (w)) := hD1.weaken (fun _ _ _ h => hFc _ h)
                generalize H1 = H at hP hS ⊢
                refine lv_iinc (v := nI (nx + 1)) (lv' := [(6, .int (nI (nx + 1))), (4, .int (nI (nx))), (5, .int (nI (st + 1))), (3, .int ((left) - (xSame (a) w (fi) (pl) (st) (nx)))), (8, .int ((xSame (a) w (fi) (pl) (st) (nx)) + (xNext (a) w ms (fi) (pl) (st) (nx)))), (7, .int (xSame (a) w (fi) (pl) (st) (nx))), (0, .ref (q 0)), (1, .int (nI (fi)))]) hx hb dX_walk_143 hl (k := 5) rfl (nI_1 _) (by decide) rfl (fun ls hl => ?_)
                refine lv_goto (tgt := 26) hx hb dX_walk_146 (by decide) ?_
                refine ih (k - 1) (by omega) (nx + 1) _ (nx) (st + 1) (L + 1) (xAddA (a) (L) (nx) (st + 1)) (va_up (f) 5 (nI (L + 1))) _ _ ls hf1 hf4 rfl (by omega) (by omega) (by omega) (by omega) (by omega) (lv_sub hl [0, 2, 1, 3, 6, 7] rfl) hP hD hS (fun H locs ls pc hd hP hD hS => kk H locs ls pc hd ?_ ?_ hS)
                · rw [eg, xWalkG_next c_70 c_106 c_120]
                  rw [show k - 1 + 1 = k from by omega] at hP
                  exact hP
                · rw [eg, xWalkG_next c_70 c_106 c_120]
                  rw [show k - 1 + 1 = k from by omega] at hD
                  exact hD
            · refine lv_iload_n hx hb dX_walk_109 rfl (lv_at hl 5 rfl) ?_
              refine lv_iload hx hb dX_walk_110 (lv_at hl 0 rfl) ?_
              refine lv_isub hx hb dX_walk_112 ?_
              refine lv_istore_n (lv' := [(3, .int ((left) - ((xSame (a) w (fi) (pl) (st) (nx)) + (xNext (a) w ms (fi) (pl) (st) (nx))))), (8, .int ((xSame (a) w (fi) (pl) (st) (nx)) + (xNext (a) w ms (fi) (pl) (st) (nx)))), (7, .int (xSame (a) w (fi) (pl) (st) (nx))), (6, .int (nI (nx))), (5, .int (nI (st))), (4, .int (nI (pl))), (0, .ref (q 0)), (1, .int (nI (fi)))]) hx hb dX_walk_113 rfl hl (by decide) rfl (fun ls hl => ?_)
              refine lv_goto (tgt := 143) hx hb dX_walk_114 (by decide) ?_
              refine lv_iinc (v := nI (nx + 1)) (lv' := [(6, .int (nI (nx + 1))), (3, .int ((left) - ((xSame (a) w (fi) (pl) (st) (nx)) + (xNext (a) w ms (fi) (pl) (st) (nx))))), (8, .int ((xSame (a) w (fi) (pl) (st) (nx)) + (xNext (a) w ms (fi) (pl) (st) (nx)))), (7, .int (xSame (a) w (fi) (pl) (st) (nx))), (5, .int (nI (st))), (4, .int (nI (pl))), (0, .ref (q 0)), (1, .int (nI (fi)))]) hx hb dX_walk_143 hl (k := 3) rfl (nI_1 _) (by decide) rfl (fun ls hl => ?_)
              refine lv_goto (tgt := 26) hx hb dX_walk_146 (by decide) ?_
              refine ih (k - 1) (by omega) (nx + 1) _ (pl) (st) L (a) (f) _ _ ls hf1 hf4 hf5 (by omega) (by omega) (by omega) (by omega) (by omega) (lv_sub hl [0, 4, 5, 1, 6, 7] rfl) hP hD hS (fun H locs ls pc hd hP hD hS => kk H locs ls pc hd ?_ ?_ hS)
              · rw [eg, xWalkG_skip c_70 c_106]
                rw [show k - 1 + 1 = k from by omega] at hP
                exact hP
              · rw [eg, xWalkG_skip c_70 c_106]
                rw [show k - 1 + 1 = k from by omega] at hD
                exact hD
          · refine kk H locs ls 73 dX_walk_73 ?_ ?_ hS
            · rw [eg, xWalkG_no c_70]; exact hP
            · rw [eg, xWalkG_no c_70]; exact hD
        · refine lv_iload_n hx hb dX_walk_53 rfl (lv_at hl 3 rfl) ?_
          refine lv_if_ne (tgt := 58) hx hb dX_walk_54 (by decide) (fun c_54 => ?_) (fun c_54 => ?_)
          · refine lv_iinc (v := (left) + Int32.ofInt (-1)) (lv' := [(3, .int ((left) + Int32.ofInt (-1))), (6, .int (nI (nx))), (5, .int (nI (st))), (4, .int (nI (pl))), (0, .ref (q 0)), (1, .int (nI (fi)))]) hx hb dX_walk_58 hl (k := 3) rfl (rfl) (by decide) rfl (fun ls hl => ?_)
            have eg : xWalkL w n ms fi (k + 1) nx left pl st L a f = xWalkG (xWalkL w n ms fi k) w ms fi nx ((left) + Int32.ofInt (-1)) pl st L a f := xWalkL_go2 (by omega) c_41 (of_decide_eq_true c_50) c_54
            refine lv_aload_n hx hb dX_walk_61 rfl (lv_at hl 4 rfl) ?_
            refine lv_iload_n hx hb dX_walk_62 rfl (lv_at hl 5 rfl) ?_
            refine lv_iload hx hb dX_walk_63 (lv_at hl 3 rfl) ?_
            refine lv_iload hx hb dX_walk_65 (lv_at hl 1 rfl) ?_
            refine vp_callSi (W.runV (As := [.int (nI (fi)), .int (nI (pl)), .int (nI (nx))]) (rest := []) ⟨hx, hb, hml, hown, hbw⟩ (tX_mayFollow l dC dI q cI cZ cG (a) (f) w (fi) (pl) (nx) (by omega) (by omega) (by omega)) (cwV 3 hbw (bw_V km_X_138 ki_yX_mayFollow ksel_yX_mayFollow ki_EventPatterns kcX_mayFollow) rfl rfl rfl (by decide +kernel) ⟨Nat.le_of_ble_eq_true rfl, Nat.le_of_ble_eq_true rfl⟩) ⟨fun a U g mk q => by obtain ⟨q0, qP, qK⟩ := q; exact ⟨q0, qP, va_K.moved (u := U) (U := U.calling g mk a) (Vm.Alike.refl U.vm) qK⟩, va_recv hK hP (ci := 0) (q0 := 0) rfl rfl, fun U hU hW => ⟨rfl, by rw [hU]; exact hP, va_K.moved hW.alike hK⟩⟩ rfl rfl hl.1 rfl (lv_room (Nat.le_of_ble_eq_true rfl)) dX_walk_67 ⟨hcs.1, hcs.2⟩) (fun r_67 hq => ?_)
            subst hq
            refine nr_ifb_ne (tgt := 74) hx hb (b := (xMay (a) (f) (fi) (pl) (nx))) dX_walk_70 (by decide) (fun c_70 => ?_) (fun c_70 => ?_)
            · refine lv_aload_n hx hb dX_walk_74 rfl (lv_at hl 4 rfl) ?_
              refine lv_iload_n hx hb dX_walk_75 rfl (lv_at hl 5 rfl) ?_
              refine lv_iload hx hb dX_walk_76 (lv_at hl 3 rfl) ?_
              refine lv_iload hx hb dX_walk_78 (lv_at hl 2 rfl) ?_
              refine lv_iload hx hb dX_walk_80 (lv_at hl 1 rfl) ?_
              refine vp_callSi (W.runV (As := [.int (nI (fi)), .int (nI (pl)), .int (nI (st)), .int (nI (nx))]) (rest := []) ⟨hx, hb, hml, hown, hbw⟩ (tX_waysBySameStep l dC dI q cI cZ cG (a) (f) w (fi) (pl) (st) (nx) (by omega) (by omega) (by omega) (by omega)) (cwV 4 hbw (bw_V km_X_142 ki_yX_waysBySameStep ksel_yX_waysBySameStep ki_EventPatterns kcX_waysBySameStep) rfl rfl rfl (by decide +kernel) ⟨Nat.le_of_ble_eq_true rfl, Nat.le_of_ble_eq_true rfl⟩) ⟨fun a U g mk q => by obtain ⟨q0, qP, qK⟩ := q; exact ⟨q0, qP, va_K.moved (u := U) (U := U.calling g mk a) (Vm.Alike.refl U.vm) qK⟩, va_recv hK hP (ci := 0) (q0 := 0) rfl rfl, fun U hU hW => ⟨rfl, by rw [hU]; exact hP, va_K.moved hW.alike hK⟩⟩ rfl rfl hl.1 rfl (lv_room (Nat.le_of_ble_eq_true rfl)) dX_walk_82 ⟨hcs.1, hcs.2⟩) (fun r_82 hq => ?_)
              subst hq
              refine lv_istore (lv' := [(7, .int (xSame (a) w (fi) (pl) (st) (nx))), (3, .int ((left) + Int32.ofInt (-1))), (6, .int (nI (nx))), (5, .int (nI (st))), (4, .int (nI (pl))), (0, .ref (q 0)), (1, .int (nI (fi)))]) hx hb dX_walk_85 hl (by decide) rfl (fun ls hl => ?_)
              refine lv_iload hx hb dX_walk_87 (lv_at hl 0 rfl) ?_
              refine lv_aload_n hx hb dX_walk_89 rfl (lv_at hl 5 rfl) ?_
              refine lv_iload_n hx hb dX_walk_90 rfl (lv_at hl 6 rfl) ?_
              refine lv_iload hx hb dX_walk_91 (lv_at hl 4 rfl) ?_
              refine lv_iload hx hb dX_walk_93 (lv_at hl 3 rfl) ?_
              refine lv_iload hx hb dX_walk_95 (lv_at hl 2 rfl) ?_
              refine vp_callSi (W.runV (As := [.int (nI (fi)), .int (nI (pl)), .int (nI (st)), .int (nI (nx))]) (rest := [.int (xSame (a) w (fi) (pl) (st) (nx))]) ⟨hx, hb, hml, hown, hbw⟩ (tX_waysByNextStep l dC dI q cI cZ cG (a) (f) w ms (fi) (pl) (st) (nx) h0 hm hf4 (by omega) (by omega) (by omega) (by omega)) (cwV 4 hbw (bw_V km_X_145 ki_yX_waysByNextStep ksel_yX_waysByNextStep ki_EventPatterns kcX_waysByNextStep) rfl rfl rfl (by decide +kernel) ⟨Nat.le_of_ble_eq_true rfl, Nat.le_of_ble_eq_true rfl⟩) ⟨fun a U g mk q => by obtain ⟨q0, qP, qK⟩ := q; exact ⟨q0, qP, va_K.moved (u := U) (U := U.calling g mk a) (Vm.Alike.refl U.vm) qK⟩, va_recv hK hP (ci := 0) (q0 := 0) rfl rfl, fun U hU hW => ⟨rfl, by rw [hU]; exact hP, va_K.moved hW.alike hK⟩⟩ rfl rfl hl.1 rfl (lv_room (Nat.le_of_ble_eq_true rfl)) dX_walk_97 ⟨hcs.1, hcs.2⟩) (fun r_97 hq => ?_)
              subst hq
              refine lv_iadd hx hb dX_walk_100 ?_
              refine lv_istore (lv' := [(8, .int ((xSame (a) w (fi) (pl) (st) (nx)) + (xNext (a) w ms (fi) (pl) (st) (nx)))), (7, .int (xSame (a) w (fi) (pl) (st) (nx))), (3, .int ((left) + Int32.ofInt (-1))), (6, .int (nI (nx))), (5, .int (nI (st))), (4, .int (nI (pl))), (0, .ref (q 0)), (1, .int (nI (fi)))]) hx hb dX_walk_101 hl (by decide) rfl (fun ls hl => ?_)
              refine lv_iload_n hx hb dX_walk_103 rfl (lv_at hl 2 rfl) ?_
              refine lv_iload hx hb dX_walk_104 (lv_at hl 0 rfl) ?_
              refine lv_icmp_lt (tgt := 117) hx hb dX_walk_106 (by decide) (fun c_106 => ?_) (fun c_106 => ?_)
              · refine lv_iload_n hx hb dX_walk_117 rfl (lv_at hl 2 rfl) ?_
                refine lv_iload hx hb dX_walk_118 (lv_at hl 1 rfl) ?_
                refine lv_icmp_lt (tgt := 131) hx hb dX_walk_120 (by decide) (fun c_120 => ?_) (fun c_120 => ?_)
                · refine lv_iload hx hb dX_walk_131 (lv_at hl 3 rfl) ?_
                  refine lv_istore (lv' := [(4, .int (nI (nx))), (8, .int ((xSame (a) w (fi) (pl) (st) (nx)) + (xNext (a) w ms (fi) (pl) (st) (nx)))), (7, .int (xSame (a) w (fi) (pl) (st) (nx))), (3, .int ((left) + Int32.ofInt (-1))), (6, .int (nI (nx))), (5, .int (nI (st))), (0, .ref (q 0)), (1, .int (nI (fi)))]) hx hb dX_walk_133 hl (by decide) rfl (fun ls hl => ?_)
                  refine lv_aload_n hx hb dX_walk_135 rfl (lv_at hl 6 rfl) ?_
                  refine lv_iload hx hb dX_walk_136 (lv_at hl 0 rfl) ?_
                  refine lv_iload hx hb dX_walk_138 (lv_at hl 5 rfl) ?_
                  have hFc := va_free (wc := xw q cI cZ cG (a) (f) (w)) hD hS hA (List.range 27) rfl
                  refine va_callv (va_runV (As := [.int (nI (nx)), .int (nI (st))]) (rest := []) ⟨hx, hb, hml, hown, hbw⟩ (tX_addFound l dC dI q cI cZ cG (a) (f) w H.size (L) (nx) (st) (by omega) (hf5)) (cwV 2 hbw (bw_V km_X_152 ki_yX_addFound ksel_yX_addFound ki_EventPatterns kcX_addFound) rfl rfl rfl (by decide +kernel) ⟨Nat.le_of_ble_eq_true rfl, Nat.le_of_ble_eq_true rfl⟩) ⟨fun a U g mk q => by obtain ⟨q0, q1, qP, qK, qD⟩ := q; exact ⟨q0, q1, qP, va_K.moved (u := U) (U := U.calling g mk a) (Vm.Alike.refl U.vm) qK, qD⟩, va_recv hK hP (ci := 0) (q0 := 0) rfl rfl, fun U hU hW => ⟨rfl, by rw [hU], by rw [hU]; exact hP, va_K.moved hW.alike hK, hD.weaken (fun _ _ _ _ => trivial)⟩⟩ rfl rfl hl.1 rfl (lv_room (Nat.le_of_ble_eq_true rfl)) dX_walk_140 ⟨hcs.1, hcs.2⟩) hS (fun q _ h => hFc q h) hFc (fun u t H1 locs ht hvm hq hB hz1 hk1 hS => ?_)
                  rw [if_pos (by omega)] at hq
                  obtain rfl := hq
                  obtain ⟨hP1, hK1, hD1⟩ := hB
                  rw [ht] at hP1
                  have hP : va_P (dC, dI) cls2 (xw q cI cZ cG (xAddA (a) (L) (nx) (st)) (va_up (f) 5 (nI (L + 1))) (w)) H1 := hP1
                  have hD : va_D A (xw q cI cZ cG (xAddA (a) (L) (nx) (st)) (va_up (f) 5 (nI (L + 1))) (w)) := hD1.weaken (fun _ _ _ h => hFc _ h)
                  generalize H1 = H at hP hS ⊢
                  refine lv_iinc (v := nI (nx + 1)) (lv' := [(6, .int (nI (nx + 1))), (4, .int (nI (nx))), (8, .int ((xSame (a) w (fi) (pl) (st) (nx)) + (xNext (a) w ms (fi) (pl) (st) (nx)))), (7, .int (xSame (a) w (fi) (pl) (st) (nx))), (3, .int ((left) + Int32.ofInt (-1))), (5, .int (nI (st))), (0, .ref (q 0)), (1, .int (nI (fi)))]) hx hb dX_walk_143 hl (k := 4) rfl (nI_1 _) (by decide) rfl (fun ls hl => ?_)
                  refine lv_goto (tgt := 26) hx hb dX_walk_146 (by decide) ?_
                  refine ih (k - 1) (by omega) (nx + 1) _ (nx) (st) (L + 1) (xAddA (a) (L) (nx) (st)) (va_up (f) 5 (nI (L + 1))) _ _ ls hf1 hf4 rfl (by omega) (by omega) (by omega) (by omega) (by omega) (lv_sub hl [0, 5, 1, 4, 6, 7] rfl) hP hD hS (fun H locs ls pc hd hP hD hS => kk H locs ls pc hd ?_ ?_ hS)
                  · rw [eg, xWalkG_same c_70 c_106 c_120]
                    rw [show k - 1 + 1 = k from by omega] at hP
                    exact hP
                  · rw [eg, xWalkG_same c_70 c_106 c_120]
                    rw [show k - 1 + 1 = k from by omega] at hD
                    exact hD
                · have hst2 : st + 1 < ms := by
                    rcases Nat.lt_or_ge (st + 1) ms with h9 | h9
                    · exact h9
                    · exfalso
                      have e0 : xNext a w ms fi pl st nx = 0 := by rw [xNext, if_pos (Or.inl (by omega))]
                      rw [e0, Int32.add_zero] at c_106
                      exact c_120 c_106
                  refine lv_iload_n hx hb dX_walk_123 rfl (lv_at hl 2 rfl) ?_
                  refine lv_iload hx hb dX_walk_124 (lv_at hl 1 rfl) ?_
                  refine lv_isub hx hb dX_walk_126 ?_
                  refine lv_istore_n (lv' := [(3, .int (((left) + Int32.ofInt (-1)) - (xSame (a) w (fi) (pl) (st) (nx)))), (8, .int ((xSame (a) w (fi) (pl) (st) (nx)) + (xNext (a) w ms (fi) (pl) (st) (nx)))), (7, .int (xSame (a) w (fi) (pl) (st) (nx))), (6, .int (nI (nx))), (5, .int (nI (st))), (4, .int (nI (pl))), (0, .ref (q 0)), (1, .int (nI (fi)))]) hx hb dX_walk_127 rfl hl (by decide) rfl (fun ls hl => ?_)
                  refine lv_iinc (v := nI (st + 1)) (lv' := [(5, .int (nI (st + 1))), (3, .int (((left) + Int32.ofInt (-1)) - (xSame (a) w (fi) (pl) (st) (nx)))), (8, .int ((xSame (a) w (fi) (pl) (st) (nx)) + (xNext (a) w ms (fi) (pl) (st) (nx)))), (7, .int (xSame (a) w (fi) (pl) (st) (nx))), (6, .int (nI (nx))), (4, .int (nI (pl))), (0, .ref (q 0)), (1, .int (nI (fi)))]) hx hb dX_walk_128 hl (k := 4) rfl (nI_1 _) (by decide) rfl (fun ls hl => ?_)
                  refine lv_iload hx hb dX_walk_131 (lv_at hl 4 rfl) ?_
                  refine lv_istore (lv' := [(4, .int (nI (nx))), (5, .int (nI (st + 1))), (3, .int (((left) + Int32.ofInt (-1)) - (xSame (a) w (fi) (pl) (st) (nx)))), (8, .int ((xSame (a) w (fi) (pl) (st) (nx)) + (xNext (a) w ms (fi) (pl) (st) (nx)))), (7, .int (xSame (a) w (fi) (pl) (st) (nx))), (6, .int (nI (nx))), (0, .ref (q 0)), (1, .int (nI (fi)))]) hx hb dX_walk_133 hl (by decide) rfl (fun ls hl => ?_)
                  refine lv_aload_n hx hb dX_walk_135 rfl (lv_at hl 6 rfl) ?_
                  refine lv_iload hx hb dX_walk_136 (lv_at hl 0 rfl) ?_
                  refine lv_iload hx hb dX_walk_138 (lv_at hl 1 rfl) ?_
                  have hFc := va_free (wc := xw q cI cZ cG (a) (f) (w)) hD hS hA (List.range 27) rfl
                  refine va_callv (va_runV (As := [.int (nI (nx)), .int (nI (st + 1))]) (rest := []) ⟨hx, hb, hml, hown, hbw⟩ (tX_addFound l dC dI q cI cZ cG (a) (f) w H.size (L) (nx) (st + 1) (by omega) (hf5)) (cwV 2 hbw (bw_V km_X_152 ki_yX_addFound ksel_yX_addFound ki_EventPatterns kcX_addFound) rfl rfl rfl (by decide +kernel) ⟨Nat.le_of_ble_eq_true rfl, Nat.le_of_ble_eq_true rfl⟩) ⟨fun a U g mk q => by obtain ⟨q0, q1, qP, qK, qD⟩ := q; exact ⟨q0, q1, qP, va_K.moved (u := U) (U := U.calling g mk a) (Vm.Alike.refl U.vm) qK, qD⟩, va_recv hK hP (ci := 0) (q0 := 0) rfl rfl, fun U hU hW => ⟨rfl, by rw [hU], by rw [hU]; exact hP, va_K.moved hW.alike hK, hD.weaken (fun _ _ _ _ => trivial)⟩⟩ rfl rfl hl.1 rfl (lv_room (Nat.le_of_ble_eq_true rfl)) dX_walk_140 ⟨hcs.1, hcs.2⟩) hS (fun q _ h => hFc q h) hFc (fun u t H1 locs ht hvm hq hB hz1 hk1 hS => ?_)
                  rw [if_pos (by omega)] at hq
                  obtain rfl := hq
                  obtain ⟨hP1, hK1, hD1⟩ := hB
                  rw [ht] at hP1
                  have hP : va_P (dC, dI) cls2 (xw q cI cZ cG (xAddA (a) (L) (nx) (st + 1)) (va_up (f) 5 (nI (L + 1))) (w)) H1 := hP1
                  have hD : va_D A (xw q cI cZ cG (xAddA (a) (L) (nx) (st + 1)) (va_up (f) 5 (nI (L + 1))) (w)) := hD1.weaken (fun _ _ _ h => hFc _ h)
                  generalize H1 = H at hP hS ⊢
                  refine lv_iinc (v := nI (nx + 1)) (lv' := [(6, .int (nI (nx + 1))), (4, .int (nI (nx))), (5, .int (nI (st + 1))), (3, .int (((left) + Int32.ofInt (-1)) - (xSame (a) w (fi) (pl) (st) (nx)))), (8, .int ((xSame (a) w (fi) (pl) (st) (nx)) + (xNext (a) w ms (fi) (pl) (st) (nx)))), (7, .int (xSame (a) w (fi) (pl) (st) (nx))), (0, .ref (q 0)), (1, .int (nI (fi)))]) hx hb dX_walk_143 hl (k := 5) rfl (nI_1 _) (by decide) rfl (fun ls hl => ?_)
                  refine lv_goto (tgt := 26) hx hb dX_walk_146 (by decide) ?_
                  refine ih (k - 1) (by omega) (nx + 1) _ (nx) (st + 1) (L + 1) (xAddA (a) (L) (nx) (st + 1)) (va_up (f) 5 (nI (L + 1))) _ _ ls hf1 hf4 rfl (by omega) (by omega) (by omega) (by omega) (by omega) (lv_sub hl [0, 2, 1, 3, 6, 7] rfl) hP hD hS (fun H locs ls pc hd hP hD hS => kk H locs ls pc hd ?_ ?_ hS)
                  · rw [eg, xWalkG_next c_70 c_106 c_120]
                    rw [show k - 1 + 1 = k from by omega] at hP
                    exact hP
                  · rw [eg, xWalkG_next c_70 c_106 c_120]
                    rw [show k - 1 + 1 = k from by omega] at hD
                    exact hD
              · refine lv_iload_n hx hb dX_walk_109 rfl (lv_at hl 2 rfl) ?_
                refine lv_iload hx hb dX_walk_110 (lv_at hl 0 rfl) ?_
                refine lv_isub hx hb dX_walk_112 ?_
                refine lv_istore_n (lv' := [(3, .int (((left) + Int32.ofInt (-1)) - ((xSame (a) w (fi) (pl) (st) (nx)) + (xNext (a) w ms (fi) (pl) (st) (nx))))), (8, .int ((xSame (a) w (fi) (pl) (st) (nx)) + (xNext (a) w ms (fi) (pl) (st) (nx)))), (7, .int (xSame (a) w (fi) (pl) (st) (nx))), (6, .int (nI (nx))), (5, .int (nI (st))), (4, .int (nI (pl))), (0, .ref (q 0)), (1, .int (nI (fi)))]) hx hb dX_walk_113 rfl hl (by decide) rfl (fun ls hl => ?_)
                refine lv_goto (tgt := 143) hx hb dX_walk_114 (by decide) ?_
                refine lv_iinc (v := nI (nx + 1)) (lv' := [(6, .int (nI (nx + 1))), (3, .int (((left) + Int32.ofInt (-1)) - ((xSame (a) w (fi) (pl) (st) (nx)) + (xNext (a) w ms (fi) (pl) (st) (nx))))), (8, .int ((xSame (a) w (fi) (pl) (st) (nx)) + (xNext (a) w ms (fi) (pl) (st) (nx)))), (7, .int (xSame (a) w (fi) (pl) (st) (nx))), (5, .int (nI (st))), (4, .int (nI (pl))), (0, .ref (q 0)), (1, .int (nI (fi)))]) hx hb dX_walk_143 hl (k := 3) rfl (nI_1 _) (by decide) rfl (fun ls hl => ?_)
                refine lv_goto (tgt := 26) hx hb dX_walk_146 (by decide) ?_
                refine ih (k - 1) (by omega) (nx + 1) _ (pl) (st) L (a) (f) _ _ ls hf1 hf4 hf5 (by omega) (by omega) (by omega) (by omega) (by omega) (lv_sub hl [0, 4, 5, 1, 6, 7] rfl) hP hD hS (fun H locs ls pc hd hP hD hS => kk H locs ls pc hd ?_ ?_ hS)
                · rw [eg, xWalkG_skip c_70 c_106]
                  rw [show k - 1 + 1 = k from by omega] at hP
                  exact hP
                · rw [eg, xWalkG_skip c_70 c_106]
                  rw [show k - 1 + 1 = k from by omega] at hD
                  exact hD
            · refine kk H locs ls 73 dX_walk_73 ?_ ?_ hS
              · rw [eg, xWalkG_no c_70]; exact hP
              · rw [eg, xWalkG_no c_70]; exact hD
          · refine kk H locs ls 57 dX_walk_57 ?_ ?_ hS
            · rw [xWalkL_end c_32 c_41 (of_decide_eq_true c_50) c_54]; exact hP
            · rw [xWalkL_end c_32 c_41 (of_decide_eq_true c_50) c_54]; exact hD
set_option maxHeartbeats 4000000 in
set_option maxRecDepth 100000 in
/-- walk(first, number) -/
theorem tX_walk (l : Launch) (dC : Nat → ClassId) (dI : Nat → Nat → Nat) (q : Nat → Nat) (cI cZ cG : ClassId) (a : Nat → Nat → Int32) (f : Nat → Int32) (w : Nat → Nat → Int32) (sz : Nat) (n ms fi : Nat) (left : Int32) (hn : n ≤ 16) (hf1 : f 1 = nI n) (h0 : 1 ≤ ms) (hm : ms ≤ 5) (hf4 : f 4 = nI ms) (h1 : fi < n) : Met l yX_walk wX_walk ({ frames := 2, cells := 0, slots := 0, locals := 49 }) (va_Pc [.ref (q 0), .int (nI (fi)), .int (left)] (fun U => U.heap.size = sz ∧ va_P (dC, dI) cls2 (xw q cI cZ cG a f w) U.heap ∧ va_K (dC, dI) cls2 (xt cI cZ cG) U ∧ va_D (fun _ => True) (xw q cI cZ cG a f w))) (va_Qv (fun (u : XS) => u = xWalk a f w n ms fi left) (atX dC dI q cI cZ cG (va_A (xw q cI cZ cG a f w) sz)) (va_A (xw q cI cZ cG a f w) sz)) 0 0 (va_A (xw q cI cZ cG a f w) sz) := by
  refine Met.ofW (cc := cX_walk) (maxL := 9) (ret := none) (by decide) rfl ?_
  intro p e s m args below meth c s₁ B hml hv
  obtain ⟨rfl, hsz, hP, hK, hD0⟩ := hv
  have hx := B.exec
  have hb := B.bytes
  have hr := B.returns
  have hbw : ∀ w ∈ bw, w.before _ s = true := fun w h => atoms_spec (ws := wX_walk) B.pre w (List.mem_cons_of_mem _ h)
  have hown : s.vm.findClass "EventPatterns" = some m.cls := findClass_of_methodNamed B.named
  have hlocks := B.notSynchronized
  subst hsz
  have hD := hD0.self (sz := s.heap.size)
  generalize hAe : va_A (xw q cI cZ cG a f w) s.heap.size = A at hD ⊢
  have hA : ∀ q : Nat, s.heap.size ≤ q → A q := fun q h => by rw [← hAe]; exact Or.inr h
  have hS : va_S A s.heap s.heap [] := va_S.rf
  have hl := lv_entry ([.ref (q 0), .int (nI (fi)), .int (left)]) (n := 9) (Nat.le_of_ble_eq_true rfl)
  rw [lg_entry_eq]
  generalize (lg_sl ([.ref (q 0), .int (nI (fi)), .int (left)]) ++ List.replicate (9 - (lg_sl ([.ref (q 0), .int (nI (fi)), .int (left)])).length) Slot.unset).toArray = ls at hl ⊢
  have hl : lv_has ls 9 [(0, .ref (q 0)), (1, .int (nI (fi))), (2, .int (left))] := hl
  refine lv_iload_n hx hb dX_walk_0 rfl (lv_at hl 2 rfl) ?_
  refine lv_istore_n (lv' := [(3, .int (left)), (0, .ref (q 0)), (1, .int (nI (fi))), (2, .int (left))]) hx hb dX_walk_1 rfl hl (by decide) rfl (fun ls hl => ?_)
  refine lv_iload_n hx hb dX_walk_2 rfl (lv_at hl 2 rfl) ?_
  refine lv_istore (lv' := [(4, .int (nI (fi))), (3, .int (left)), (0, .ref (q 0)), (1, .int (nI (fi))), (2, .int (left))]) hx hb dX_walk_3 hl (by decide) rfl (fun ls hl => ?_)
  refine lv_iconst (v := 0) hx hb dX_walk_5 (by decide) ?_
  refine lv_istore (lv' := [(5, .int (0)), (4, .int (nI (fi))), (3, .int (left)), (0, .ref (q 0)), (1, .int (nI (fi))), (2, .int (left))]) hx hb dX_walk_6 hl (by decide) rfl (fun ls hl => ?_)
  refine lv_aload_n hx hb dX_walk_8 rfl (lv_at hl 3 rfl) ?_
  refine lv_iconst (v := 0) hx hb dX_walk_9 (by decide) ?_
  refine va_put (D := (dC, dI)) (ci := 0) (v := .int (0)) (ty := .int) (C := "EventPatterns") (T := TX) (N := 16) hx hb hbw inX tyX okX nmX hown hK hP hD hS 0 rfl rfl 15 (by decide) (hbw _ kf_X_59) (fun _ h9 => h9) rfl (by decide +kernel) rfl rfl (Nat.le_of_ble_eq_true rfl) dX_walk_10 (fun H locs hP hD hS => ?_)
  have hP : va_P (dC, dI) cls2 (xw q cI cZ cG (a) (va_up (f) 5 (0)) (w)) H := hP
  have hD : va_D A (xw q cI cZ cG (a) (va_up (f) 5 (0)) (w)) := hD
  refine lv_aload_n hx hb dX_walk_13 rfl (lv_at hl 3 rfl) ?_
  refine lv_iload hx hb dX_walk_14 (lv_at hl 1 rfl) ?_
  refine lv_iload hx hb dX_walk_16 (lv_at hl 0 rfl) ?_
  have hFc := va_free (wc := xw q cI cZ cG (a) (va_up (f) 5 (0)) (w)) hD hS hA (List.range 27) rfl
  refine va_callv (va_runV (As := [.int (nI (fi)), .int (0)]) (rest := []) ⟨hx, hb, hml, hown, hbw⟩ (tX_addFound l dC dI q cI cZ cG (a) (va_up (f) 5 (0)) w H.size (0) (fi) (0) (by omega) (rfl)) (cwV 2 hbw (bw_V km_X_152 ki_yX_addFound ksel_yX_addFound ki_EventPatterns kcX_addFound) rfl rfl rfl (by decide +kernel) ⟨Nat.le_of_ble_eq_true rfl, Nat.le_of_ble_eq_true rfl⟩) ⟨fun a U g mk q => by obtain ⟨q0, q1, qP, qK, qD⟩ := q; exact ⟨q0, q1, qP, va_K.moved (u := U) (U := U.calling g mk a) (Vm.Alike.refl U.vm) qK, qD⟩, va_recv hK hP (ci := 0) (q0 := 0) rfl rfl, fun U hU hW => ⟨rfl, by rw [hU], by rw [hU]; exact hP, va_K.moved hW.alike hK, hD.weaken (fun _ _ _ _ => trivial)⟩⟩ rfl rfl hl.1 rfl (lv_room (Nat.le_of_ble_eq_true rfl)) dX_walk_18 ⟨Nat.le_of_ble_eq_true rfl, Nat.le_of_ble_eq_true rfl⟩) hS (fun q _ h => hFc q h) hFc (fun u t H1 locs ht hvm hq hB hz1 hk1 hS => ?_)
  rw [if_pos (by omega)] at hq
  obtain rfl := hq
  obtain ⟨hP1, hK1, hD1⟩ := hB
  rw [ht] at hP1
  have hP : va_P (dC, dI) cls2 (xw q cI cZ cG (xAddA (a) (0) (fi) (0)) (va_up (va_up (f) 5 (0)) 5 (nI (0 + 1))) (w)) H1 := hP1
  have hD : va_D A (xw q cI cZ cG (xAddA (a) (0) (fi) (0)) (va_up (va_up (f) 5 (0)) 5 (nI (0 + 1))) (w)) := hD1.weaken (fun _ _ _ h => hFc _ h)
  generalize H1 = H at hP hS ⊢
  refine lv_iload_n hx hb dX_walk_21 rfl (lv_at hl 4 rfl) ?_
  refine lv_iconst (v := 1) hx hb dX_walk_22 (by decide) ?_
  refine nr_iadd hx hb (a1 := fi) (b1 := 1) dX_walk_23 ?_
  refine lv_istore (lv' := [(6, .int (nI (fi + 1))), (5, .int (0)), (4, .int (nI (fi))), (3, .int (left)), (0, .ref (q 0)), (1, .int (nI (fi))), (2, .int (left))]) hx hb dX_walk_24 hl (by decide) rfl (fun ls hl => ?_)
  refine lX_walk l dC dI q cI cZ cG w n ms fi hn h0 hm ⟨Nat.le_refl _, Nat.le_refl _⟩ hx hb hml hown hbw hK hA n (fi + 1) left fi 0 1 (xAddA (a) (0) (fi) (0)) (va_up (va_up (f) 5 (0)) 5 (nI (0 + 1))) _ _ ls hf1 hf4 rfl (by omega) (by omega) (by omega) (by omega) (by omega) (lv_sub hl [0, 1, 2, 3, 4, 5] rfl) hP hD hS (fun H locs ls pc hd hP hD hS => ?_)
  exact W.vret hx hb hr (fun t ht hW => ⟨⟨_, rfl, rfl, by rw [ht]; exact hP, va_K.moved hW.alike hK, hD⟩, hS.F ht⟩) hS.2.2 hd
def xFindL (a : Nat → Nat → Int32) (f : Nat → Int32) (n ms : Nat) : Nat → Nat → Int32 → (Nat → Nat → Int32) → Bool × XS
  | 0, _, _, w => (false, (a, f, w))
  | k + 1, fi, left, w =>
    if fi < n then (if left < xFromR a f n ms fi 0 w then (true, xWalk a f (xFromW a f n ms fi 0 w) n ms fi left) else xFindL a f n ms k (fi + 1) (left - xFromR a f n ms fi 0 w) (xFromW a f n ms fi 0 w))
    else (false, (a, f, w))
theorem xFindL_out {a : Nat → Nat → Int32} {f : Nat → Int32} {n ms k fi : Nat} {left : Int32} {w : Nat → Nat → Int32} (h : n ≤ fi) : xFindL a f n ms (k + 1) fi left w = (false, (a, f, w)) := by rw [xFindL, if_neg (by omega)]
theorem xFindL_hit {a : Nat → Nat → Int32} {f : Nat → Int32} {n ms k fi : Nat} {left : Int32} {w : Nat → Nat → Int32} (h : fi < n) (h1 : left < xFromR a f n ms fi 0 w) : xFindL a f n ms (k + 1) fi left w = (true, xWalk a f (xFromW a f n ms fi 0 w) n ms fi left) := by rw [xFindL, if_pos h, if_pos h1]
theorem xFindL_on {a : Nat → Nat → Int32} {f : Nat → Int32} {n ms k fi : Nat} {left : Int32} {w : Nat → Nat → Int32} (hk : 1 ≤ k) (h : fi < n) (h1 : ¬ left < xFromR a f n ms fi 0 w) : xFindL a f n ms (k + 1) fi left w = xFindL a f n ms (k - 1 + 1) (fi + 1) (left - xFromR a f n ms fi 0 w) (xFromW a f n ms fi 0 w) := by rw [xFindL, if_pos h, if_neg h1, show k - 1 + 1 = k by omega]
def xFind (a : Nat → Nat → Int32) (f : Nat → Int32) (w : Nat → Nat → Int32) (n ms : Nat) (kk : Int32) : Bool × XS := if kk < 0 then (false, (a, f, w)) else xFindL a f n ms (n + 1) 0 kk w
set_option maxHeartbeats 4000000 in
set_option maxRecDepth 100000 in
theorem lX_find (l : Launch) (dC : Nat → ClassId) (dI : Nat → Nat → Nat) (q : Nat → Nat) (cI cZ cG : ClassId) (a : Nat → Nat → Int32) (f : Nat → Int32) {p : Program} {e : Env} {s : State} {m : MethodId} {args : Array Value} {below : List Frame} {meth : Method} {c : Code} {Q : State → Prop} {A : Nat → Prop} (n ms : Nat) (hn : n ≤ 16) (hf1 : f 1 = nI n) (h0 : 1 ≤ ms) (hm : ms ≤ 5) (hf4 : f 4 = nI ms) {cells slots : Nat} (hcs : cells ≤ 0 ∧ slots ≤ 0) (hx : p.tables.exec = Jvm.exec) (hb : c.code = cX_find) (hml : c.maxLocals = 5) (hown : s.vm.findClass "EventPatterns" = some m.cls) (hbw : ∀ w ∈ bw, w.before args s = true) (hK : va_K (dC, dI) cls2 (xt cI cZ cG) s) (hA : ∀ q : Nat, s.heap.size ≤ q → A q) :
    ∀ (k fi : Nat) (left : Int32) (w : Nat → Nat → Int32) (H : Heap) (locs : List Loc) (ls : Array Slot), n ≤ fi + k → fi ≤ 16 → lv_has ls 5 [(3, .int (nI fi)), (2, .int left), (0, .ref (q 0))] → va_P (dC, dI) cls2 (xw q cI cZ cG a f w) H → va_D A (xw q cI cZ cG a f w) → va_S A s.heap H locs →
      (∀ (H : Heap) (locs : List Loc) (ls : Array Slot) (pc : Nat), decode cX_find pc = .ok (.ireturn, 1) → va_P (dC, dI) cls2 (xw q cI cZ cG (xFindL a f n ms (k + 1) fi left w).2.1 (xFindL a f n ms (k + 1) fi left w).2.2.1 (xFindL a f n ms (k + 1) fi left w).2.2.2) H → va_D A (xw q cI cZ cG (xFindL a f n ms (k + 1) fi left w).2.1 (xFindL a f n ms (k + 1) fi left w).2.2.1 (xFindL a f n ms (k + 1) fi left w).2.2.2) → va_S A s.heap H locs → W p l e ({ frames := 4, cells := 0, slots := 0, locals := 99 }) s m args below meth c H locs cells slots Q (F0 m pc ls [.int (bI (xFindL a f n ms (k + 1) fi left w).1)])) → W p l e ({ frames := 4, cells := 0, slots := 0, locals := 99 }) s m args below meth c H locs cells slots Q (F0 m 10 ls []) := by
  intro k
  induction k using Nat.strongRecOn with
  | ind k ih =>
    intro fi left w H locs ls hk hfi hl hP hD hS kk
    refine lv_iload_n hx hb dX_find_10 rfl (lv_at hl 0 rfl) ?_
    refine lv_aload_n hx hb dX_find_11 rfl (lv_at hl 2 rfl) ?_
    refine va_get (D := (dC, dI)) (ci := 0) (v := .int (nI (n))) (C := "EventPatterns") (T := TX) (N := 16) hx hb hbw inX hown hK hP 0 rfl rfl 4 (by decide) (hbw _ kf_X_47) (fun _ h9 => h9) (congrArg (fun z => some (Value.int z)) (hf1)) dX_find_12 ?_
    refine nr_icmp_ge (tgt := 51) hx hb (a1 := fi) (b1 := n) (by omega) (by omega) dX_find_15 (by decide) (fun c_15 => ?_) (fun c_15 => ?_)
    · refine lv_iconst (v := 0) hx hb dX_find_51 (by decide) ?_
      rw [xFindL_out c_15] at kk
      exact kk H locs ls 52 dX_find_52 hP hD hS
    · refine lv_aload_n hx hb dX_find_18 rfl (lv_at hl 2 rfl) ?_
      refine lv_iload_n hx hb dX_find_19 rfl (lv_at hl 0 rfl) ?_
      refine lv_iconst (v := 0) hx hb dX_find_20 (by decide) ?_
      have hFc := va_free (wc := xw q cI cZ cG (a) (f) (w)) hD hS hA (List.range 27) rfl
      refine va_calli (va_runV (As := [.int (nI (fi)), .int (0)]) (rest := []) ⟨hx, hb, hml, hown, hbw⟩ (tX_waysFrom l dC dI q cI cZ cG a f (w) H.size n ms (fi) (0) hn hf1 h0 hm hf4 (by omega)) (cwV 2 hbw (bw_V km_X_123 ki_yX_waysFrom ksel_yX_waysFrom ki_EventPatterns kcX_waysFrom) rfl rfl rfl (by decide +kernel) ⟨Nat.le_of_ble_eq_true rfl, Nat.le_of_ble_eq_true rfl⟩) ⟨fun a U g mk q => by obtain ⟨q0, q1, qP, qK, qD⟩ := q; exact ⟨q0, q1, qP, va_K.moved (u := U) (U := U.calling g mk a) (Vm.Alike.refl U.vm) qK, qD⟩, va_recv hK hP (ci := 0) (q0 := 0) rfl rfl, fun U hU hW => ⟨rfl, by rw [hU], by rw [hU]; exact hP, va_K.moved hW.alike hK, hD.weaken (fun _ _ _ _ => trivial)⟩⟩ rfl rfl hl.1 rfl (lv_room (Nat.le_of_ble_eq_true rfl)) dX_find_21 ⟨hcs.1, hcs.2⟩) hS (fun q _ h => hFc q h) hFc (fun r_21 u t H1 locs ht hvm hq hB hz1 hk1 hS => ?_)
      obtain ⟨rfl, rfl⟩ := hq
      obtain ⟨hP1, hK1, hD1⟩ := hB
      rw [ht] at hP1
      have hP : va_P (dC, dI) cls2 (xw q cI cZ cG (a) (f) (xFromW a f n ms (fi) (0) (w))) H1 := hP1
      have hD : va_D A (xw q cI cZ cG (a) (f) (xFromW a f n ms (fi) (0) (w))) := hD1.weaken (fun _ _ _ h => hFc _ h)
      generalize H1 = H at hP hS ⊢
      refine lv_istore (lv' := [(4, .int (xFromR a f n ms (fi) (0) (w))), (3, .int (nI (fi))), (2, .int (left)), (0, .ref (q 0))]) hx hb dX_find_24 hl (by decide) rfl (fun ls hl => ?_)
      refine lv_iload_n hx hb dX_find_26 rfl (lv_at hl 2 rfl) ?_
      refine lv_iload hx hb dX_find_27 (lv_at hl 0 rfl) ?_
      refine lv_icmp_ge (tgt := 40) hx hb dX_find_29 (by decide) (fun c_29 => ?_) (fun c_29 => ?_) <;> rw [← Int32.not_lt] at c_29
      · refine lv_iload_n hx hb dX_find_40 rfl (lv_at hl 2 rfl) ?_
        refine lv_iload hx hb dX_find_41 (lv_at hl 0 rfl) ?_
        refine lv_isub hx hb dX_find_43 ?_
        refine lv_istore_n (lv' := [(2, .int ((left) - (xFromR a f n ms (fi) (0) (w)))), (4, .int (xFromR a f n ms (fi) (0) (w))), (3, .int (nI (fi))), (0, .ref (q 0))]) hx hb dX_find_44 rfl hl (by decide) rfl (fun ls hl => ?_)
        refine lv_iinc (v := nI (fi + 1)) (lv' := [(3, .int (nI (fi + 1))), (2, .int ((left) - (xFromR a f n ms (fi) (0) (w)))), (4, .int (xFromR a f n ms (fi) (0) (w))), (0, .ref (q 0))]) hx hb dX_find_45 hl (k := 2) rfl (nI_1 _) (by decide) rfl (fun ls hl => ?_)
        refine lv_goto (tgt := 10) hx hb dX_find_48 (by decide) ?_
        exact ih (k - 1) (by omega) (fi + 1) _ _ _ _ ls (by omega) (by omega) (lv_sub hl [0, 1, 3] rfl) hP hD hS (fun H locs ls pc hd hP hD hS => by rw [xFindL_on (by omega) c_15 c_29] at kk; exact kk H locs ls pc hd hP hD hS)
      have c_29 := Decidable.not_not.mp c_29
      refine lv_aload_n hx hb dX_find_32 rfl (lv_at hl 3 rfl) ?_
      refine lv_iload_n hx hb dX_find_33 rfl (lv_at hl 1 rfl) ?_
      refine lv_iload_n hx hb dX_find_34 rfl (lv_at hl 2 rfl) ?_
      have hFc := va_free (wc := xw q cI cZ cG (a) (f) (xFromW a f n ms (fi) (0) (w))) hD hS hA (List.range 27) rfl
      refine va_callv (va_runV (As := [.int (nI (fi)), .int (left)]) (rest := []) ⟨hx, hb, hml, hown, hbw⟩ (tX_walk l dC dI q cI cZ cG a f (xFromW a f n ms (fi) (0) (w)) H.size n ms (fi) (left) hn hf1 h0 hm hf4 (by omega)) (cwV 2 hbw (bw_V km_X_148 ki_yX_walk ksel_yX_walk ki_EventPatterns kcX_walk) rfl rfl rfl (by decide +kernel) ⟨Nat.le_of_ble_eq_true rfl, Nat.le_of_ble_eq_true rfl⟩) ⟨fun a U g mk q => by obtain ⟨q0, q1, qP, qK, qD⟩ := q; exact ⟨q0, q1, qP, va_K.moved (u := U) (U := U.calling g mk a) (Vm.Alike.refl U.vm) qK, qD⟩, va_recv hK hP (ci := 0) (q0 := 0) rfl rfl, fun U hU hW => ⟨rfl, by rw [hU], by rw [hU]; exact hP, va_K.moved hW.alike hK, hD.weaken (fun _ _ _ _ => trivial)⟩⟩ rfl rfl hl.1 rfl (lv_room (Nat.le_of_ble_eq_true rfl)) dX_find_35 ⟨hcs.1, hcs.2⟩) hS (fun q _ h => hFc q h) hFc (fun u t H1 locs ht hvm hq hB hz1 hk1 hS => ?_)
      obtain rfl := hq
      obtain ⟨hP1, hK1, hD1⟩ := hB
      rw [ht] at hP1
      have hP : va_P (dC, dI) cls2 (xw q cI cZ cG ((xWalk a f (xFromW a f n ms (fi) (0) (w)) n ms (fi) (left)).1) ((xWalk a f (xFromW a f n ms (fi) (0) (w)) n ms (fi) (left)).2.1) ((xWalk a f (xFromW a f n ms (fi) (0) (w)) n ms (fi) (left)).2.2)) H1 := hP1
      have hD : va_D A (xw q cI cZ cG ((xWalk a f (xFromW a f n ms (fi) (0) (w)) n ms (fi) (left)).1) ((xWalk a f (xFromW a f n ms (fi) (0) (w)) n ms (fi) (left)).2.1) ((xWalk a f (xFromW a f n ms (fi) (0) (w)) n ms (fi) (left)).2.2)) := hD1.weaken (fun _ _ _ h => hFc _ h)
      generalize H1 = H at hP hS ⊢
      refine lv_iconst (v := 1) hx hb dX_find_38 (by decide) ?_
      rw [xFindL_hit c_15 c_29] at kk
      exact kk H locs ls 39 dX_find_39 hP hD hS
set_option maxHeartbeats 4000000 in
set_option maxRecDepth 100000 in
/-- find(k) -/
theorem tX_find (l : Launch) (dC : Nat → ClassId) (dI : Nat → Nat → Nat) (q : Nat → Nat) (cI cZ cG : ClassId) (a : Nat → Nat → Int32) (f : Nat → Int32) (w : Nat → Nat → Int32) (sz : Nat) (n ms : Nat) (kk : Int32) (hn : n ≤ 16) (hf1 : f 1 = nI n) (h0 : 1 ≤ ms) (hm : ms ≤ 5) (hf4 : f 4 = nI ms)  : Met l yX_find wX_find ({ frames := 4, cells := 0, slots := 0, locals := 99 }) (va_Pc [.ref (q 0), .int (kk)] (fun U => U.heap.size = sz ∧ va_P (dC, dI) cls2 (xw q cI cZ cG a f w) U.heap ∧ va_K (dC, dI) cls2 (xt cI cZ cG) U ∧ va_D (fun _ => True) (xw q cI cZ cG a f w))) (va_Qi (fun (r0 : Int32) (u : XS) => r0 = bI (xFind a f w n ms kk).1 ∧ u = (xFind a f w n ms kk).2) (atX dC dI q cI cZ cG (va_A (xw q cI cZ cG a f w) sz)) (va_A (xw q cI cZ cG a f w) sz)) 0 0 (va_A (xw q cI cZ cG a f w) sz) := by
  refine Met.ofW (cc := cX_find) (maxL := 5) (ret := (some .boolean)) (by decide) rfl ?_
  intro p e s m args below meth c s₁ B hml hv
  obtain ⟨rfl, hsz, hP, hK, hD0⟩ := hv
  have hx := B.exec
  have hb := B.bytes
  have hr := B.returns
  have hbw : ∀ w ∈ bw, w.before _ s = true := fun w h => atoms_spec (ws := wX_find) B.pre w (List.mem_cons_of_mem _ h)
  have hown : s.vm.findClass "EventPatterns" = some m.cls := findClass_of_methodNamed B.named
  have hlocks := B.notSynchronized
  subst hsz
  have hD := hD0.self (sz := s.heap.size)
  generalize hAe : va_A (xw q cI cZ cG a f w) s.heap.size = A at hD ⊢
  have hA : ∀ q : Nat, s.heap.size ≤ q → A q := fun q h => by rw [← hAe]; exact Or.inr h
  have hS : va_S A s.heap s.heap [] := va_S.rf
  have hl := lv_entry ([.ref (q 0), .int (kk)]) (n := 5) (Nat.le_of_ble_eq_true rfl)
  rw [lg_entry_eq]
  generalize (lg_sl ([.ref (q 0), .int (kk)]) ++ List.replicate (5 - (lg_sl ([.ref (q 0), .int (kk)])).length) Slot.unset).toArray = ls at hl ⊢
  have hl : lv_has ls 5 [(0, .ref (q 0)), (1, .int (kk))] := hl
  refine lv_iload_n hx hb dX_find_0 rfl (lv_at hl 1 rfl) ?_
  refine lv_if_ge (tgt := 6) hx hb dX_find_1 (by decide) (fun c_1 => ?_) (fun c_1 => ?_)
  · refine lv_iload_n hx hb dX_find_6 rfl (lv_at hl 1 rfl) ?_
    refine lv_istore_n (lv' := [(2, .int (kk)), (0, .ref (q 0)), (1, .int (kk))]) hx hb dX_find_7 rfl hl (by decide) rfl (fun ls hl => ?_)
    refine lv_iconst (v := 0) hx hb dX_find_8 (by decide) ?_
    refine lv_istore_n (lv' := [(3, .int (0)), (2, .int (kk)), (0, .ref (q 0)), (1, .int (kk))]) hx hb dX_find_9 rfl hl (by decide) rfl (fun ls hl => ?_)
    refine lX_find l dC dI q cI cZ cG a f n ms hn hf1 h0 hm hf4 ⟨Nat.le_refl _, Nat.le_refl _⟩ hx hb hml hown hbw hK hA n 0 kk w s.heap [] ls (by omega) (by omega) (lv_sub hl [0, 1, 2] rfl) hP hD hS (fun H locs ls pc hd hP hD hS => ?_)
    have eF : xFind a f w n ms kk = xFindL a f n ms (n + 1) 0 kk w := by rw [xFind, if_neg (by rw [Int32.not_lt]; exact c_1)]
    rw [← eF] at hP hD ⊢
    exact W.zret hx hb hr (by cases (xFind a f w n ms kk).1 <;> rfl) (fun t ht hW => ⟨⟨_, _, rfl, ⟨rfl, rfl⟩, by rw [ht]; exact hP, va_K.moved hW.alike hK, hD⟩, hS.F ht⟩) hS.2.2 hd
  · refine lv_iconst (v := 0) hx hb dX_find_4 (by decide) ?_
    have eF : xFind a f w n ms kk = (false, (a, f, w)) := by rw [xFind, if_pos (by rw [← Int32.not_le]; exact c_1)]
    exact W.zret (v := 0) hx hb hr rfl (fun t ht hW => ⟨⟨0, (a, f, w), rfl, ⟨by rw [eF]; rfl, by rw [eF]⟩, by rw [ht]; exact hP, va_K.moved hW.alike hK, hD⟩, hS.F ht⟩) hS.2.2 dX_find_5
end
section
/-! WHAT A THROW NEEDS OF THE START -/
def xNg : List Cond := [.castable "java/lang/IllegalArgumentException" "java/lang/IllegalArgumentException", .castable "java/lang/UnsupportedOperationException" "java/lang/UnsupportedOperationException", .castable "java/lang/IndexOutOfBoundsException" "java/lang/IndexOutOfBoundsException", .castable "java/lang/IllegalStateException" "java/lang/IllegalStateException", .declares ⟨"java/lang/RuntimeException", "<init>", "(Ljava/lang/String;)V"⟩, .declares ⟨"java/lang/Exception", "<init>", "(Ljava/lang/String;)V"⟩, .declares ⟨"java/lang/Throwable", "<init>", "(Ljava/lang/String;)V"⟩]
def xStr : List (Nat × String) := [(69, "no such time here"), (74, "no such kind"), (78, "no room for more events"), (84, "no such style"), (86, "no such span"), (88, "no such kinds"), (90, "no such test"), (92, "no room for more steps"), (114, "the pattern has no steps"), (121, "no such match"), (107, "no such event in the match"), (110, "no such what")]
theorem xNg_ot : ∀ w ∈ xNg, w.onTables = true := by decide +kernel
theorem xNg_warm {s U : State} (hW : s.WarmedH U.vm) {w : Cond} (hw : w ∈ xNg) (h : va_Nw w s) : va_Nw w U := by
  simp only [xNg, List.mem_cons, List.not_mem_nil, or_false] at hw
  rcases hw with rfl | rfl | rfl | rfl | rfl | rfl | rfl
  · exact va_Nw.warmC hW h
  · exact va_Nw.warmC hW h
  · exact va_Nw.warmC hW h
  · exact va_Nw.warmC hW h
  · exact va_Nw.warmD hW h
  · exact va_Nw.warmD hW h
  · exact va_Nw.warmD hW h
/-- no traces are kept; two statics of Throwable lie outside A; words on exceptions; the texts of the class are Strings -/
def xE (l : Launch) (A : Nat → Prop) (U : State) (H : Heap) : Prop :=
  l.stackTraces = false ∧ vx_Zq Bundle.tN "UNASSIGNED_STACK" Bundle.steD A U H ∧ vx_Zq Bundle.tN "SUPPRESSED_SENTINEL" Bundle.listD A U H ∧ (∀ w ∈ xNg, va_Nw w U) ∧ ∀ z ∈ xStr, ∃ sa : Nat, vk_R "EventPatterns" z.1 z.2 sa U
theorem xE.warm {l : Launch} {A : Nat → Prop} {s U : State} {H : Heap} (hW : s.WarmedH U.vm) (h : xE l A s H) : xE l A U H :=
  ⟨h.1, h.2.1.moved hW.alike, h.2.2.1.moved hW.alike, fun w hw => xNg_warm hW hw (h.2.2.2.1 w hw), fun z hz => by obtain ⟨sa, h1⟩ := h.2.2.2.2 z hz; exact ⟨sa, h1.warm hW⟩⟩
theorem xE.same {l : Launch} {A : Nat → Prop} {s U : State} {H : Heap} (hv : U.vm = s.vm) (h : xE l A s H) : xE l A U H := by
  have ha : s.vm.Alike U.vm := by rw [hv]; exact Vm.Alike.refl _
  exact ⟨h.1, h.2.1.moved ha, h.2.2.1.moved ha, fun w hw => va_Nw.same (xNg_ot w hw) hv.symm (h.2.2.2.1 w hw), fun z hz => by obtain ⟨sa, h1⟩ := h.2.2.2.2 z hz; exact ⟨sa, h1.same hv⟩⟩
theorem xE.kept {l : Launch} {A : Nat → Prop} {U : State} {H H1 : Heap} (h : xE l A U H) (hq : ∀ a : Nat, a < H.size → ¬ A a → H1[a]? = H[a]?) : xE l A U H1 := ⟨h.1, h.2.1.kept hq, h.2.2.1.kept hq, h.2.2.2⟩
theorem xE.narrow {l : Launch} {A B : Nat → Prop} {U : State} {H : Heap} (h : xE l A U H) (hAB : ∀ q, B q → A q) : xE l B U H := ⟨h.1, h.2.1.narrow hAB, h.2.2.1.narrow hAB, h.2.2.2⟩
theorem xin_IAE : ∀ w ∈ (vx_atS "EventPatterns" 71 "java/lang/IllegalArgumentException" ["java/lang/RuntimeException", "java/lang/Exception"]).filter goodWord, w ∈ bw := by decide +kernel
theorem xng_IAE : ∀ w ∈ (vx_atS "EventPatterns" 71 "java/lang/IllegalArgumentException" ["java/lang/RuntimeException", "java/lang/Exception"]).filter (fun w => !goodWord w), w ∈ xNg := by decide +kernel
theorem xgd_IAE : ∀ w ∈ Cond.classLink "EventPatterns" 67 "java/lang/IllegalArgumentException" :: Cond.initialized "java/lang/IllegalArgumentException" :: vx_atS "EventPatterns" 71 "java/lang/IllegalArgumentException" ["java/lang/RuntimeException", "java/lang/Exception"], vx_ot w = true := by decide +kernel
theorem xat_IAE {l : Launch} {A : Nat → Prop} {args : Array Value} {s : State} {H : Heap} (hbw : ∀ w ∈ bw, w.before args s = true) (hE : xE l A s H) : ∀ w ∈ vx_atS "EventPatterns" 71 "java/lang/IllegalArgumentException" ["java/lang/RuntimeException", "java/lang/Exception"], w.before args s = true :=
  vx_hat (fun w hw => hbw w (xin_IAE w hw)) xng_IAE (fun w hw => va_Nw.use (xNg_ot w hw) (hE.2.2.2.1 w hw))
theorem xin_UOE : ∀ w ∈ (vx_atS "EventPatterns" 80 "java/lang/UnsupportedOperationException" ["java/lang/RuntimeException", "java/lang/Exception"]).filter goodWord, w ∈ bw := by decide +kernel
theorem xng_UOE : ∀ w ∈ (vx_atS "EventPatterns" 80 "java/lang/UnsupportedOperationException" ["java/lang/RuntimeException", "java/lang/Exception"]).filter (fun w => !goodWord w), w ∈ xNg := by decide +kernel
theorem xgd_UOE : ∀ w ∈ Cond.classLink "EventPatterns" 76 "java/lang/UnsupportedOperationException" :: Cond.initialized "java/lang/UnsupportedOperationException" :: vx_atS "EventPatterns" 80 "java/lang/UnsupportedOperationException" ["java/lang/RuntimeException", "java/lang/Exception"], vx_ot w = true := by decide +kernel
theorem xat_UOE {l : Launch} {A : Nat → Prop} {args : Array Value} {s : State} {H : Heap} (hbw : ∀ w ∈ bw, w.before args s = true) (hE : xE l A s H) : ∀ w ∈ vx_atS "EventPatterns" 80 "java/lang/UnsupportedOperationException" ["java/lang/RuntimeException", "java/lang/Exception"], w.before args s = true :=
  vx_hat (fun w hw => hbw w (xin_UOE w hw)) xng_UOE (fun w hw => va_Nw.use (xNg_ot w hw) (hE.2.2.2.1 w hw))
theorem xin_IOE : ∀ w ∈ (vx_atS "EventPatterns" 109 "java/lang/IndexOutOfBoundsException" ["java/lang/RuntimeException", "java/lang/Exception"]).filter goodWord, w ∈ bw := by decide +kernel
theorem xng_IOE : ∀ w ∈ (vx_atS "EventPatterns" 109 "java/lang/IndexOutOfBoundsException" ["java/lang/RuntimeException", "java/lang/Exception"]).filter (fun w => !goodWord w), w ∈ xNg := by decide +kernel
theorem xgd_IOE : ∀ w ∈ Cond.classLink "EventPatterns" 105 "java/lang/IndexOutOfBoundsException" :: Cond.initialized "java/lang/IndexOutOfBoundsException" :: vx_atS "EventPatterns" 109 "java/lang/IndexOutOfBoundsException" ["java/lang/RuntimeException", "java/lang/Exception"], vx_ot w = true := by decide +kernel
theorem xat_IOE {l : Launch} {A : Nat → Prop} {args : Array Value} {s : State} {H : Heap} (hbw : ∀ w ∈ bw, w.before args s = true) (hE : xE l A s H) : ∀ w ∈ vx_atS "EventPatterns" 109 "java/lang/IndexOutOfBoundsException" ["java/lang/RuntimeException", "java/lang/Exception"], w.before args s = true :=
  vx_hat (fun w hw => hbw w (xin_IOE w hw)) xng_IOE (fun w hw => va_Nw.use (xNg_ot w hw) (hE.2.2.2.1 w hw))
theorem xin_ISE : ∀ w ∈ (vx_atS "EventPatterns" 116 "java/lang/IllegalStateException" ["java/lang/RuntimeException", "java/lang/Exception"]).filter goodWord, w ∈ bw := by decide +kernel
theorem xng_ISE : ∀ w ∈ (vx_atS "EventPatterns" 116 "java/lang/IllegalStateException" ["java/lang/RuntimeException", "java/lang/Exception"]).filter (fun w => !goodWord w), w ∈ xNg := by decide +kernel
theorem xgd_ISE : ∀ w ∈ Cond.classLink "EventPatterns" 112 "java/lang/IllegalStateException" :: Cond.initialized "java/lang/IllegalStateException" :: vx_atS "EventPatterns" 116 "java/lang/IllegalStateException" ["java/lang/RuntimeException", "java/lang/Exception"], vx_ot w = true := by decide +kernel
theorem xat_ISE {l : Launch} {A : Nat → Prop} {args : Array Value} {s : State} {H : Heap} (hbw : ∀ w ∈ bw, w.before args s = true) (hE : xE l A s H) : ∀ w ∈ vx_atS "EventPatterns" 116 "java/lang/IllegalStateException" ["java/lang/RuntimeException", "java/lang/Exception"], w.before args s = true :=
  vx_hat (fun w hw => hbw w (xin_ISE w hw)) xng_ISE (fun w hw => va_Nw.use (xNg_ot w hw) (hE.2.2.2.1 w hw))
set_option maxHeartbeats 4000000 in
set_option maxRecDepth 100000 in
/-- clear() -/
theorem tX_clear (l : Launch) (dC : Nat → ClassId) (dI : Nat → Nat → Nat) (q : Nat → Nat) (cI cZ cG : ClassId) (a : Nat → Nat → Int32) (f : Nat → Int32) (w : Nat → Nat → Int32) (sz : Nat)   : Met l yX_clear wX_clear ({ frames := 0, cells := 0, slots := 0, locals := 0 }) (va_Pc [.ref (q 0)] (fun U => U.heap.size = sz ∧ va_P (dC, dI) cls2 (xw q cI cZ cG a f w) U.heap ∧ va_K (dC, dI) cls2 (xt cI cZ cG) U ∧ va_D (fun _ => True) (xw q cI cZ cG a f w))) (va_Qv (fun (u : XS) => u = (a, va_up (va_up f 0 0) 1 0, w)) (atX dC dI q cI cZ cG (va_A (xw q cI cZ cG a f w) sz)) (va_A (xw q cI cZ cG a f w) sz)) 0 0 (va_A (xw q cI cZ cG a f w) sz) := by
  refine Met.ofW (cc := cX_clear) (maxL := 1) (ret := none) (by decide) rfl ?_
  intro p e s m args below meth c s₁ B hml hv
  obtain ⟨rfl, hsz, hP, hK, hD0⟩ := hv
  have hx := B.exec
  have hb := B.bytes
  have hr := B.returns
  have hbw : ∀ w ∈ bw, w.before _ s = true := fun w h => atoms_spec (ws := wX_clear) B.pre w (List.mem_cons_of_mem _ h)
  have hown : s.vm.findClass "EventPatterns" = some m.cls := findClass_of_methodNamed B.named
  have hlocks := B.notSynchronized
  subst hsz
  have hD := hD0.self (sz := s.heap.size)
  generalize hAe : va_A (xw q cI cZ cG a f w) s.heap.size = A at hD ⊢
  have hA : ∀ q : Nat, s.heap.size ≤ q → A q := fun q h => by rw [← hAe]; exact Or.inr h
  have hS : va_S A s.heap s.heap [] := va_S.rf
  have hl := lv_entry ([.ref (q 0)]) (n := 1) (Nat.le_of_ble_eq_true rfl)
  rw [lg_entry_eq]
  generalize (lg_sl ([.ref (q 0)]) ++ List.replicate (1 - (lg_sl ([.ref (q 0)])).length) Slot.unset).toArray = ls at hl ⊢
  have hl : lv_has ls 1 [(0, .ref (q 0))] := hl
  refine lv_aload_n hx hb dX_clear_0 rfl (lv_at hl 0 rfl) ?_
  refine lv_iconst (v := 0) hx hb dX_clear_1 (by decide) ?_
  refine va_put (D := (dC, dI)) (ci := 0) (v := .int (0)) (ty := .int) (C := "EventPatterns") (T := TX) (N := 16) hx hb hbw inX tyX okX nmX hown hK hP hD hS 0 rfl rfl 3 (by decide) (hbw _ kf_X_43) (fun _ h9 => h9) rfl (by decide +kernel) rfl rfl (Nat.le_of_ble_eq_true rfl) dX_clear_2 (fun H locs hP hD hS => ?_)
  have hP : va_P (dC, dI) cls2 (xw q cI cZ cG (a) (va_up (f) 0 (0)) (w)) H := hP
  have hD : va_D A (xw q cI cZ cG (a) (va_up (f) 0 (0)) (w)) := hD
  refine lv_aload_n hx hb dX_clear_5 rfl (lv_at hl 0 rfl) ?_
  refine lv_iconst (v := 0) hx hb dX_clear_6 (by decide) ?_
  refine va_put (D := (dC, dI)) (ci := 0) (v := .int (0)) (ty := .int) (C := "EventPatterns") (T := TX) (N := 16) hx hb hbw inX tyX okX nmX hown hK hP hD hS 0 rfl rfl 4 (by decide) (hbw _ kf_X_47) (fun _ h9 => h9) rfl (by decide +kernel) rfl rfl (Nat.le_of_ble_eq_true rfl) dX_clear_7 (fun H locs hP hD hS => ?_)
  have hP : va_P (dC, dI) cls2 (xw q cI cZ cG (a) (va_up (va_up (f) 0 (0)) 1 (0)) (w)) H := hP
  have hD : va_D A (xw q cI cZ cG (a) (va_up (va_up (f) 0 (0)) 1 (0)) (w)) := hD
  exact W.vret hx hb hr (fun t ht hW => ⟨⟨(a, va_up (va_up f 0 0) 1 0, w), rfl, rfl, by rw [ht]; exact hP, va_K.moved hW.alike hK, hD⟩, hS.F ht⟩) hS.2.2 dX_clear_10
def paBad (sy sp : Int32) : Prop := (¬ sy = 0 ∧ ¬ sy = 1) ∨ sp < 0 ∨ 1000000 < sp
set_option maxHeartbeats 4000000 in
set_option maxRecDepth 100000 in
/-- pattern(style, span) -/
theorem tX_pattern (l : Launch) (dC : Nat → ClassId) (dI : Nat → Nat → Nat) (q : Nat → Nat) (cI cZ cG : ClassId) (a : Nat → Nat → Int32) (f : Nat → Int32) (w : Nat → Nat → Int32) (sz : Nat) (sy sp : Int32)  : vx_Met l yX_pattern wX_pattern ({ frames := 6, cells := 1, slots := 6, locals := 90 }) (va_Pc [.ref (q 0), .int (sy), .int (sp)] (fun U => U.heap.size = sz ∧ va_P (dC, dI) cls2 (xw q cI cZ cG a f w) U.heap ∧ va_K (dC, dI) cls2 (xt cI cZ cG) U ∧ va_D (fun _ => True) (xw q cI cZ cG a f w) ∧ xE l (va_A (xw q cI cZ cG a f w) sz) U U.heap)) (va_Qv (fun (u : XS) => ¬ paBad sy sp ∧ u = (a, va_up (va_up (va_up f 2 sy) 3 sp) 4 0, w)) (atX dC dI q cI cZ cG (va_A (xw q cI cZ cG a f w) sz)) (va_A (xw q cI cZ cG a f w) sz)) (vx_X (fun u : XS => u = (a, f, w)) (fun E u t => (E = "java/lang/IllegalArgumentException" ∧ paBad sy sp) ∧ atX dC dI q cI cZ cG (va_A (xw q cI cZ cG a f w) sz) u t) (va_A (xw q cI cZ cG a f w) sz)) 1 6 (va_A (xw q cI cZ cG a f w) sz) := by
  refine vx_ofW (cc := cX_pattern) (maxL := 3) (ret := none) (by decide) rfl ?_
  intro p e s m args below meth c s₁ B hml hno hv
  obtain ⟨rfl, hsz, hP, hK, hD0, hE⟩ := hv
  have hx := B.exec
  have hb := B.bytes
  have hr := B.returns
  have hbw : ∀ w ∈ bw, w.before _ s = true := fun w h => atoms_spec (ws := wX_pattern) B.pre w (List.mem_cons_of_mem _ h)
  have hown : s.vm.findClass "EventPatterns" = some m.cls := findClass_of_methodNamed B.named
  have hlocks := B.notSynchronized
  subst hsz
  have hD := hD0.self (sz := s.heap.size)
  generalize hAe : va_A (xw q cI cZ cG a f w) s.heap.size = A at hD hE ⊢
  have hA : ∀ q : Nat, s.heap.size ≤ q → A q := fun q h => by rw [← hAe]; exact Or.inr h
  have hS : va_S A s.heap s.heap [] := va_S.rf
  have hl := lv_entry ([.ref (q 0), .int (sy), .int (sp)]) (n := 3) (Nat.le_of_ble_eq_true rfl)
  rw [lg_entry_eq]
  generalize (lg_sl ([.ref (q 0), .int (sy), .int (sp)]) ++ List.replicate (3 - (lg_sl ([.ref (q 0), .int (sy), .int (sp)])).length) Slot.unset).toArray = ls at hl ⊢
  have hl : lv_has ls 3 [(0, .ref (q 0)), (1, .int (sy)), (2, .int (sp))] := hl
  refine lv_iload_n hx hb dX_pattern_0 rfl (lv_at hl 1 rfl) ?_
  refine lv_if_eq (tgt := 19) hx hb dX_pattern_1 (by decide) (fun c_1 => ?_) (fun c_1 => ?_)
  · refine lv_iload_n hx hb dX_pattern_19 rfl (lv_at hl 2 rfl) ?_
    refine lv_if_lt (tgt := 29) hx hb dX_pattern_20 (by decide) (fun c_20 => ?_) (fun c_20 => ?_)
    · obtain ⟨sa, hstr⟩ := hE.2.2.2.2 (86, "no such span") (by decide)
      exact vx_throwS (text := "no such span") (names := ["java/lang/RuntimeException", "java/lang/Exception"]) hx hb hE.1 hown (by decide) (by decide) (hbw _ kl_X_67) (hbw _ ki_java_lang_IllegalArgumentException) hstr (xat_IAE hbw hE) xgd_IAE hE.2.1 hE.2.2.1 hS (hl.1.trans hml.symm) dX_pattern_29 dX_pattern_32 dX_pattern_33 dX_pattern_35 dX_pattern_38 (fun x hx => (hno x hx).elim) (Nat.le_of_ble_eq_true rfl) (Nat.le_of_ble_eq_true rfl) (Nat.le_of_ble_eq_true rfl) (Nat.le_of_ble_eq_true rfl) hlocks (fun t hal hle hkeep => ⟨(a, f, w), rfl, ⟨⟨rfl, by first | exact Or.inl ⟨c_1, c_6⟩ | exact Or.inr (Or.inl c_20) | exact Or.inr (Or.inr (Int32.not_le.mp c_26))⟩, hP.kept (fun k q hk => hkeep q.1 ((hP k q hk).lt)), va_K.moved hal hK, hD⟩, ⟨Nat.le_trans hS.1 hle, fun q h1 h2 => (hkeep q (Nat.lt_of_lt_of_le h1 hS.1)).trans (hS.2.1 q h1 h2)⟩⟩) hS.2.2 (Nat.le_of_ble_eq_true rfl) (Nat.le_of_ble_eq_true rfl)
    · refine lv_iload_n hx hb dX_pattern_23 rfl (lv_at hl 2 rfl) ?_
      refine lv_ldc (v := 1000000) hx hb hown (hbw _ kk_X_66) dX_pattern_24 ?_
      refine lv_icmp_le (tgt := 39) hx hb dX_pattern_26 (by decide) (fun c_26 => ?_) (fun c_26 => ?_)
      · refine lv_aload_n hx hb dX_pattern_39 rfl (lv_at hl 0 rfl) ?_
        refine lv_iload_n hx hb dX_pattern_40 rfl (lv_at hl 1 rfl) ?_
        refine va_put (D := (dC, dI)) (ci := 0) (v := .int (sy)) (ty := .int) (C := "EventPatterns") (T := TX) (N := 16) hx hb hbw inX tyX okX nmX hown hK hP hD hS 0 rfl rfl 9 (by decide) (hbw _ kf_X_50) (fun _ h9 => h9) rfl (by decide +kernel) rfl rfl (Nat.le_of_ble_eq_true rfl) dX_pattern_41 (fun H locs hP hD hS => ?_)
        have hP : va_P (dC, dI) cls2 (xw q cI cZ cG (a) (va_up (f) 2 (sy)) (w)) H := hP
        have hD : va_D A (xw q cI cZ cG (a) (va_up (f) 2 (sy)) (w)) := hD
        refine lv_aload_n hx hb dX_pattern_44 rfl (lv_at hl 0 rfl) ?_
        refine lv_iload_n hx hb dX_pattern_45 rfl (lv_at hl 2 rfl) ?_
        refine va_put (D := (dC, dI)) (ci := 0) (v := .int (sp)) (ty := .int) (C := "EventPatterns") (T := TX) (N := 16) hx hb hbw inX tyX okX nmX hown hK hP hD hS 0 rfl rfl 10 (by decide) (hbw _ kf_X_53) (fun _ h9 => h9) rfl (by decide +kernel) rfl rfl (Nat.le_of_ble_eq_true rfl) dX_pattern_46 (fun H locs hP hD hS => ?_)
        have hP : va_P (dC, dI) cls2 (xw q cI cZ cG (a) (va_up (va_up (f) 2 (sy)) 3 (sp)) (w)) H := hP
        have hD : va_D A (xw q cI cZ cG (a) (va_up (va_up (f) 2 (sy)) 3 (sp)) (w)) := hD
        refine lv_aload_n hx hb dX_pattern_49 rfl (lv_at hl 0 rfl) ?_
        refine lv_iconst (v := 0) hx hb dX_pattern_50 (by decide) ?_
        refine va_put (D := (dC, dI)) (ci := 0) (v := .int (0)) (ty := .int) (C := "EventPatterns") (T := TX) (N := 16) hx hb hbw inX tyX okX nmX hown hK hP hD hS 0 rfl rfl 11 (by decide) (hbw _ kf_X_56) (fun _ h9 => h9) rfl (by decide +kernel) rfl rfl (Nat.le_of_ble_eq_true rfl) dX_pattern_51 (fun H locs hP hD hS => ?_)
        have hP : va_P (dC, dI) cls2 (xw q cI cZ cG (a) (va_up (va_up (va_up (f) 2 (sy)) 3 (sp)) 4 (0)) (w)) H := hP
        have hD : va_D A (xw q cI cZ cG (a) (va_up (va_up (va_up (f) 2 (sy)) 3 (sp)) 4 (0)) (w)) := hD
        refine vx_ret ?_
        refine W.widen (k := 1) (n := 6) (by omega) (by omega) ?_
        exact W.vret hx hb hr (fun t ht hW => ⟨⟨(a, va_up (va_up (va_up f 2 sy) 3 sp) 4 0, w), rfl, ⟨by rintro (h | h | h) <;> first | exact h.1 c_1 | exact h.2 c_6 | exact c_20 h | exact absurd c_26 (Int32.not_le.mpr h), rfl⟩, by rw [ht]; exact hP, va_K.moved hW.alike hK, hD⟩, hS.F ht⟩) hS.2.2 dX_pattern_54
      · obtain ⟨sa, hstr⟩ := hE.2.2.2.2 (86, "no such span") (by decide)
        exact vx_throwS (text := "no such span") (names := ["java/lang/RuntimeException", "java/lang/Exception"]) hx hb hE.1 hown (by decide) (by decide) (hbw _ kl_X_67) (hbw _ ki_java_lang_IllegalArgumentException) hstr (xat_IAE hbw hE) xgd_IAE hE.2.1 hE.2.2.1 hS (hl.1.trans hml.symm) dX_pattern_29 dX_pattern_32 dX_pattern_33 dX_pattern_35 dX_pattern_38 (fun x hx => (hno x hx).elim) (Nat.le_of_ble_eq_true rfl) (Nat.le_of_ble_eq_true rfl) (Nat.le_of_ble_eq_true rfl) (Nat.le_of_ble_eq_true rfl) hlocks (fun t hal hle hkeep => ⟨(a, f, w), rfl, ⟨⟨rfl, by first | exact Or.inl ⟨c_1, c_6⟩ | exact Or.inr (Or.inl c_20) | exact Or.inr (Or.inr (Int32.not_le.mp c_26))⟩, hP.kept (fun k q hk => hkeep q.1 ((hP k q hk).lt)), va_K.moved hal hK, hD⟩, ⟨Nat.le_trans hS.1 hle, fun q h1 h2 => (hkeep q (Nat.lt_of_lt_of_le h1 hS.1)).trans (hS.2.1 q h1 h2)⟩⟩) hS.2.2 (Nat.le_of_ble_eq_true rfl) (Nat.le_of_ble_eq_true rfl)
  · refine lv_iload_n hx hb dX_pattern_4 rfl (lv_at hl 1 rfl) ?_
    refine lv_iconst (v := 1) hx hb dX_pattern_5 (by decide) ?_
    refine lv_icmp_eq (tgt := 19) hx hb dX_pattern_6 (by decide) (fun c_6 => ?_) (fun c_6 => ?_)
    · refine lv_iload_n hx hb dX_pattern_19 rfl (lv_at hl 2 rfl) ?_
      refine lv_if_lt (tgt := 29) hx hb dX_pattern_20 (by decide) (fun c_20 => ?_) (fun c_20 => ?_)
      · obtain ⟨sa, hstr⟩ := hE.2.2.2.2 (86, "no such span") (by decide)
        exact vx_throwS (text := "no such span") (names := ["java/lang/RuntimeException", "java/lang/Exception"]) hx hb hE.1 hown (by decide) (by decide) (hbw _ kl_X_67) (hbw _ ki_java_lang_IllegalArgumentException) hstr (xat_IAE hbw hE) xgd_IAE hE.2.1 hE.2.2.1 hS (hl.1.trans hml.symm) dX_pattern_29 dX_pattern_32 dX_pattern_33 dX_pattern_35 dX_pattern_38 (fun x hx => (hno x hx).elim) (Nat.le_of_ble_eq_true rfl) (Nat.le_of_ble_eq_true rfl) (Nat.le_of_ble_eq_true rfl) (Nat.le_of_ble_eq_true rfl) hlocks (fun t hal hle hkeep => ⟨(a, f, w), rfl, ⟨⟨rfl, by first | exact Or.inl ⟨c_1, c_6⟩ | exact Or.inr (Or.inl c_20) | exact Or.inr (Or.inr (Int32.not_le.mp c_26))⟩, hP.kept (fun k q hk => hkeep q.1 ((hP k q hk).lt)), va_K.moved hal hK, hD⟩, ⟨Nat.le_trans hS.1 hle, fun q h1 h2 => (hkeep q (Nat.lt_of_lt_of_le h1 hS.1)).trans (hS.2.1 q h1 h2)⟩⟩) hS.2.2 (Nat.le_of_ble_eq_true rfl) (Nat.le_of_ble_eq_true rfl)
      · refine lv_iload_n hx hb dX_pattern_23 rfl (lv_at hl 2 rfl) ?_
        refine lv_ldc (v := 1000000) hx hb hown (hbw _ kk_X_66) dX_pattern_24 ?_
        refine lv_icmp_le (tgt := 39) hx hb dX_pattern_26 (by decide) (fun c_26 => ?_) (fun c_26 => ?_)
        · refine lv_aload_n hx hb dX_pattern_39 rfl (lv_at hl 0 rfl) ?_
          refine lv_iload_n hx hb dX_pattern_40 rfl (lv_at hl 1 rfl) ?_
          refine va_put (D := (dC, dI)) (ci := 0) (v := .int (sy)) (ty := .int) (C := "EventPatterns") (T := TX) (N := 16) hx hb hbw inX tyX okX nmX hown hK hP hD hS 0 rfl rfl 9 (by decide) (hbw _ kf_X_50) (fun _ h9 => h9) rfl (by decide +kernel) rfl rfl (Nat.le_of_ble_eq_true rfl) dX_pattern_41 (fun H locs hP hD hS => ?_)
          have hP : va_P (dC, dI) cls2 (xw q cI cZ cG (a) (va_up (f) 2 (sy)) (w)) H := hP
          have hD : va_D A (xw q cI cZ cG (a) (va_up (f) 2 (sy)) (w)) := hD
          refine lv_aload_n hx hb dX_pattern_44 rfl (lv_at hl 0 rfl) ?_
          refine lv_iload_n hx hb dX_pattern_45 rfl (lv_at hl 2 rfl) ?_
          refine va_put (D := (dC, dI)) (ci := 0) (v := .int (sp)) (ty := .int) (C := "EventPatterns") (T := TX) (N := 16) hx hb hbw inX tyX okX nmX hown hK hP hD hS 0 rfl rfl 10 (by decide) (hbw _ kf_X_53) (fun _ h9 => h9) rfl (by decide +kernel) rfl rfl (Nat.le_of_ble_eq_true rfl) dX_pattern_46 (fun H locs hP hD hS => ?_)
          have hP : va_P (dC, dI) cls2 (xw q cI cZ cG (a) (va_up (va_up (f) 2 (sy)) 3 (sp)) (w)) H := hP
          have hD : va_D A (xw q cI cZ cG (a) (va_up (va_up (f) 2 (sy)) 3 (sp)) (w)) := hD
          refine lv_aload_n hx hb dX_pattern_49 rfl (lv_at hl 0 rfl) ?_
          refine lv_iconst (v := 0) hx hb dX_pattern_50 (by decide) ?_
          refine va_put (D := (dC, dI)) (ci := 0) (v := .int (0)) (ty := .int) (C := "EventPatterns") (T := TX) (N := 16) hx hb hbw inX tyX okX nmX hown hK hP hD hS 0 rfl rfl 11 (by decide) (hbw _ kf_X_56) (fun _ h9 => h9) rfl (by decide +kernel) rfl rfl (Nat.le_of_ble_eq_true rfl) dX_pattern_51 (fun H locs hP hD hS => ?_)
          have hP : va_P (dC, dI) cls2 (xw q cI cZ cG (a) (va_up (va_up (va_up (f) 2 (sy)) 3 (sp)) 4 (0)) (w)) H := hP
          have hD : va_D A (xw q cI cZ cG (a) (va_up (va_up (va_up (f) 2 (sy)) 3 (sp)) 4 (0)) (w)) := hD
          refine vx_ret ?_
          refine W.widen (k := 1) (n := 6) (by omega) (by omega) ?_
          exact W.vret hx hb hr (fun t ht hW => ⟨⟨(a, va_up (va_up (va_up f 2 sy) 3 sp) 4 0, w), rfl, ⟨by rintro (h | h | h) <;> first | exact h.1 c_1 | exact h.2 c_6 | exact c_20 h | exact absurd c_26 (Int32.not_le.mpr h), rfl⟩, by rw [ht]; exact hP, va_K.moved hW.alike hK, hD⟩, hS.F ht⟩) hS.2.2 dX_pattern_54
        · obtain ⟨sa, hstr⟩ := hE.2.2.2.2 (86, "no such span") (by decide)
          exact vx_throwS (text := "no such span") (names := ["java/lang/RuntimeException", "java/lang/Exception"]) hx hb hE.1 hown (by decide) (by decide) (hbw _ kl_X_67) (hbw _ ki_java_lang_IllegalArgumentException) hstr (xat_IAE hbw hE) xgd_IAE hE.2.1 hE.2.2.1 hS (hl.1.trans hml.symm) dX_pattern_29 dX_pattern_32 dX_pattern_33 dX_pattern_35 dX_pattern_38 (fun x hx => (hno x hx).elim) (Nat.le_of_ble_eq_true rfl) (Nat.le_of_ble_eq_true rfl) (Nat.le_of_ble_eq_true rfl) (Nat.le_of_ble_eq_true rfl) hlocks (fun t hal hle hkeep => ⟨(a, f, w), rfl, ⟨⟨rfl, by first | exact Or.inl ⟨c_1, c_6⟩ | exact Or.inr (Or.inl c_20) | exact Or.inr (Or.inr (Int32.not_le.mp c_26))⟩, hP.kept (fun k q hk => hkeep q.1 ((hP k q hk).lt)), va_K.moved hal hK, hD⟩, ⟨Nat.le_trans hS.1 hle, fun q h1 h2 => (hkeep q (Nat.lt_of_lt_of_le h1 hS.1)).trans (hS.2.1 q h1 h2)⟩⟩) hS.2.2 (Nat.le_of_ble_eq_true rfl) (Nat.le_of_ble_eq_true rfl)
    · obtain ⟨sa, hstr⟩ := hE.2.2.2.2 (84, "no such style") (by decide)
      exact vx_throwS (text := "no such style") (names := ["java/lang/RuntimeException", "java/lang/Exception"]) hx hb hE.1 hown (by decide) (by decide) (hbw _ kl_X_67) (hbw _ ki_java_lang_IllegalArgumentException) hstr (xat_IAE hbw hE) xgd_IAE hE.2.1 hE.2.2.1 hS (hl.1.trans hml.symm) dX_pattern_9 dX_pattern_12 dX_pattern_13 dX_pattern_15 dX_pattern_18 (fun x hx => (hno x hx).elim) (Nat.le_of_ble_eq_true rfl) (Nat.le_of_ble_eq_true rfl) (Nat.le_of_ble_eq_true rfl) (Nat.le_of_ble_eq_true rfl) hlocks (fun t hal hle hkeep => ⟨(a, f, w), rfl, ⟨⟨rfl, by first | exact Or.inl ⟨c_1, c_6⟩ | exact Or.inr (Or.inl c_20) | exact Or.inr (Or.inr (Int32.not_le.mp c_26))⟩, hP.kept (fun k q hk => hkeep q.1 ((hP k q hk).lt)), va_K.moved hal hK, hD⟩, ⟨Nat.le_trans hS.1 hle, fun q h1 h2 => (hkeep q (Nat.lt_of_lt_of_le h1 hS.1)).trans (hS.2.1 q h1 h2)⟩⟩) hS.2.2 (Nat.le_of_ble_eq_true rfl) (Nat.le_of_ble_eq_true rfl)
def stBad (ki te : Int32) : Prop := ki < 1 ∨ 255 < ki ∨ te < 0 ∨ 4 < te
set_option maxHeartbeats 4000000 in
set_option maxRecDepth 100000 in
/-- step(kinds, test, n, many) -/
theorem tX_step (l : Launch) (dC : Nat → ClassId) (dI : Nat → Nat → Nat) (q : Nat → Nat) (cI cZ cG : ClassId) (a : Nat → Nat → Int32) (f : Nat → Int32) (w : Nat → Nat → Int32) (sz : Nat) (ms : Nat) (ki te nn mb : Int32) (hm : ms ≤ 5) (hf4 : f 4 = nI ms) : vx_Met l yX_step wX_step ({ frames := 6, cells := 1, slots := 6, locals := 90 }) (va_Pc [.ref (q 0), .int (ki), .int (te), .int (nn), .int (mb)] (fun U => U.heap.size = sz ∧ va_P (dC, dI) cls2 (xw q cI cZ cG a f w) U.heap ∧ va_K (dC, dI) cls2 (xt cI cZ cG) U ∧ va_D (fun _ => True) (xw q cI cZ cG a f w) ∧ xE l (va_A (xw q cI cZ cG a f w) sz) U U.heap)) (va_Qi (fun (r0 : Int32) (u : XS) => (¬ stBad ki te ∧ ms < 5) ∧ r0 = nI ms ∧ u = (va_up (va_up (va_up (va_up a 3 (upd (a 3) ms ki)) 4 (upd (a 4) ms te)) 5 (upd (a 5) ms nn)) 6 (upd (a 6) ms (vp_nar .boolean mb)), va_up f 4 (nI (ms + 1)), w)) (atX dC dI q cI cZ cG (va_A (xw q cI cZ cG a f w) sz)) (va_A (xw q cI cZ cG a f w) sz)) (vx_X (fun u : XS => u = (a, f, w)) (fun E u t => (E = "java/lang/IllegalArgumentException" ∧ stBad ki te ∨ E = "java/lang/UnsupportedOperationException" ∧ ¬ stBad ki te ∧ ms = 5) ∧ atX dC dI q cI cZ cG (va_A (xw q cI cZ cG a f w) sz) u t) (va_A (xw q cI cZ cG a f w) sz)) 1 6 (va_A (xw q cI cZ cG a f w) sz) := by
  refine vx_ofW (cc := cX_step) (maxL := 5) (ret := (some .int)) (by decide) rfl ?_
  intro p e s m args below meth c s₁ B hml hno hv
  obtain ⟨rfl, hsz, hP, hK, hD0, hE⟩ := hv
  have hx := B.exec
  have hb := B.bytes
  have hr := B.returns
  have hbw : ∀ w ∈ bw, w.before _ s = true := fun w h => atoms_spec (ws := wX_step) B.pre w (List.mem_cons_of_mem _ h)
  have hown : s.vm.findClass "EventPatterns" = some m.cls := findClass_of_methodNamed B.named
  have hlocks := B.notSynchronized
  subst hsz
  have hD := hD0.self (sz := s.heap.size)
  generalize hAe : va_A (xw q cI cZ cG a f w) s.heap.size = A at hD hE ⊢
  have hA : ∀ q : Nat, s.heap.size ≤ q → A q := fun q h => by rw [← hAe]; exact Or.inr h
  have hS : va_S A s.heap s.heap [] := va_S.rf
  have hl := lv_entry ([.ref (q 0), .int (ki), .int (te), .int (nn), .int (mb)]) (n := 5) (Nat.le_of_ble_eq_true rfl)
  rw [lg_entry_eq]
  generalize (lg_sl ([.ref (q 0), .int (ki), .int (te), .int (nn), .int (mb)]) ++ List.replicate (5 - (lg_sl ([.ref (q 0), .int (ki), .int (te), .int (nn), .int (mb)])).length) Slot.unset).toArray = ls at hl ⊢
  have hl : lv_has ls 5 [(0, .ref (q 0)), (1, .int (ki)), (2, .int (te)), (3, .int (nn)), (4, .int (mb))] := hl
  refine lv_iload_n hx hb dX_step_0 rfl (lv_at hl 1 rfl) ?_
  refine lv_iconst (v := 1) hx hb dX_step_1 (by decide) ?_
  refine lv_icmp_lt (tgt := 12) hx hb dX_step_2 (by decide) (fun c_2 => ?_) (fun c_2 => ?_)
  · obtain ⟨sa, hstr⟩ := hE.2.2.2.2 (88, "no such kinds") (by decide)
    exact vx_throwS (text := "no such kinds") (names := ["java/lang/RuntimeException", "java/lang/Exception"]) hx hb hE.1 hown (by decide) (by decide) (hbw _ kl_X_67) (hbw _ ki_java_lang_IllegalArgumentException) hstr (xat_IAE hbw hE) xgd_IAE hE.2.1 hE.2.2.1 hS (hl.1.trans hml.symm) dX_step_12 dX_step_15 dX_step_16 dX_step_18 dX_step_21 (fun x hx => (hno x hx).elim) (Nat.le_of_ble_eq_true rfl) (Nat.le_of_ble_eq_true rfl) (Nat.le_of_ble_eq_true rfl) (Nat.le_of_ble_eq_true rfl) hlocks (fun t hal hle hkeep => ⟨(a, f, w), rfl, ⟨Or.inl ⟨rfl, by first | exact Or.inl c_2 | exact Or.inr (Or.inl (Int32.not_le.mp c_9)) | exact Or.inr (Or.inr (Or.inl c_23)) | exact Or.inr (Or.inr (Or.inr (Int32.not_le.mp c_28)))⟩, hP.kept (fun k q hk => hkeep q.1 ((hP k q hk).lt)), va_K.moved hal hK, hD⟩, ⟨Nat.le_trans hS.1 hle, fun q h1 h2 => (hkeep q (Nat.lt_of_lt_of_le h1 hS.1)).trans (hS.2.1 q h1 h2)⟩⟩) hS.2.2 (Nat.le_of_ble_eq_true rfl) (Nat.le_of_ble_eq_true rfl)
  · refine lv_iload_n hx hb dX_step_5 rfl (lv_at hl 1 rfl) ?_
    refine lv_sipush (v := 255) hx hb dX_step_6 (by decide) ?_
    refine lv_icmp_le (tgt := 22) hx hb dX_step_9 (by decide) (fun c_9 => ?_) (fun c_9 => ?_)
    · refine lv_iload_n hx hb dX_step_22 rfl (lv_at hl 2 rfl) ?_
      refine lv_if_lt (tgt := 31) hx hb dX_step_23 (by decide) (fun c_23 => ?_) (fun c_23 => ?_)
      · obtain ⟨sa, hstr⟩ := hE.2.2.2.2 (90, "no such test") (by decide)
        exact vx_throwS (text := "no such test") (names := ["java/lang/RuntimeException", "java/lang/Exception"]) hx hb hE.1 hown (by decide) (by decide) (hbw _ kl_X_67) (hbw _ ki_java_lang_IllegalArgumentException) hstr (xat_IAE hbw hE) xgd_IAE hE.2.1 hE.2.2.1 hS (hl.1.trans hml.symm) dX_step_31 dX_step_34 dX_step_35 dX_step_37 dX_step_40 (fun x hx => (hno x hx).elim) (Nat.le_of_ble_eq_true rfl) (Nat.le_of_ble_eq_true rfl) (Nat.le_of_ble_eq_true rfl) (Nat.le_of_ble_eq_true rfl) hlocks (fun t hal hle hkeep => ⟨(a, f, w), rfl, ⟨Or.inl ⟨rfl, by first | exact Or.inl c_2 | exact Or.inr (Or.inl (Int32.not_le.mp c_9)) | exact Or.inr (Or.inr (Or.inl c_23)) | exact Or.inr (Or.inr (Or.inr (Int32.not_le.mp c_28)))⟩, hP.kept (fun k q hk => hkeep q.1 ((hP k q hk).lt)), va_K.moved hal hK, hD⟩, ⟨Nat.le_trans hS.1 hle, fun q h1 h2 => (hkeep q (Nat.lt_of_lt_of_le h1 hS.1)).trans (hS.2.1 q h1 h2)⟩⟩) hS.2.2 (Nat.le_of_ble_eq_true rfl) (Nat.le_of_ble_eq_true rfl)
      · refine lv_iload_n hx hb dX_step_26 rfl (lv_at hl 2 rfl) ?_
        refine lv_iconst (v := 4) hx hb dX_step_27 (by decide) ?_
        refine lv_icmp_le (tgt := 41) hx hb dX_step_28 (by decide) (fun c_28 => ?_) (fun c_28 => ?_)
        · refine lv_aload_n hx hb dX_step_41 rfl (lv_at hl 0 rfl) ?_
          refine va_get (D := (dC, dI)) (ci := 0) (v := .int (nI (ms))) (C := "EventPatterns") (T := TX) (N := 16) hx hb hbw inX hown hK hP 0 rfl rfl 11 (by decide) (hbw _ kf_X_56) (fun _ h9 => h9) (congrArg (fun z => some (Value.int z)) (hf4)) dX_step_42 ?_
          refine lv_iconst (v := 5) hx hb dX_step_45 (by decide) ?_
          refine nr_icmp_lt (tgt := 59) hx hb (a1 := ms) (b1 := 5) (by omega) (by omega) dX_step_46 (by decide) (fun c_46 => ?_) (fun c_46 => ?_)
          · refine lv_aload_n hx hb dX_step_59 rfl (lv_at hl 0 rfl) ?_
            refine va_get (D := (dC, dI)) (ci := 0) (v := .ref (q 4)) (C := "EventPatterns") (T := TX) (N := 16) hx hb hbw inX hown hK hP 0 rfl rfl 5 (by decide) (hbw _ kf_X_19) (fun _ h9 => h9) rfl dX_step_60 ?_
            refine lv_aload_n hx hb dX_step_63 rfl (lv_at hl 0 rfl) ?_
            refine va_get (D := (dC, dI)) (ci := 0) (v := .int (nI (ms))) (C := "EventPatterns") (T := TX) (N := 16) hx hb hbw inX hown hK hP 0 rfl rfl 11 (by decide) (hbw _ kf_X_56) (fun _ h9 => h9) (congrArg (fun z => some (Value.int z)) (hf4)) dX_step_64 ?_
            refine lv_iload_n hx hb dX_step_67 rfl (lv_at hl 1 rfl) ?_
            refine nr_iast hx hb hK hP hD hS 4 0 rfl rfl (j := ms) (by omega) (by decide) dX_step_68 (fun H locs hP hD hS => ?_)
            have hP : va_P (dC, dI) cls2 (xw q cI cZ cG (va_up (a) 3 (upd (a 3) (ms) (ki))) (f) (w)) H := hP
            have hD : va_D A (xw q cI cZ cG (va_up (a) 3 (upd (a 3) (ms) (ki))) (f) (w)) := hD
            refine lv_aload_n hx hb dX_step_69 rfl (lv_at hl 0 rfl) ?_
            refine va_get (D := (dC, dI)) (ci := 0) (v := .ref (q 5)) (C := "EventPatterns") (T := TX) (N := 16) hx hb hbw inX hown hK hP 0 rfl rfl 6 (by decide) (hbw _ kf_X_22) (fun _ h9 => h9) rfl dX_step_70 ?_
            refine lv_aload_n hx hb dX_step_73 rfl (lv_at hl 0 rfl) ?_
            refine va_get (D := (dC, dI)) (ci := 0) (v := .int (nI (ms))) (C := "EventPatterns") (T := TX) (N := 16) hx hb hbw inX hown hK hP 0 rfl rfl 11 (by decide) (hbw _ kf_X_56) (fun _ h9 => h9) (congrArg (fun z => some (Value.int z)) (hf4)) dX_step_74 ?_
            refine lv_iload_n hx hb dX_step_77 rfl (lv_at hl 2 rfl) ?_
            refine nr_iast hx hb hK hP hD hS 5 0 rfl rfl (j := ms) (by omega) (by decide) dX_step_78 (fun H locs hP hD hS => ?_)
            have hP : va_P (dC, dI) cls2 (xw q cI cZ cG (va_up (va_up (a) 3 (upd (a 3) (ms) (ki))) 4 (upd (a 4) (ms) (te))) (f) (w)) H := hP
            have hD : va_D A (xw q cI cZ cG (va_up (va_up (a) 3 (upd (a 3) (ms) (ki))) 4 (upd (a 4) (ms) (te))) (f) (w)) := hD
            refine lv_aload_n hx hb dX_step_79 rfl (lv_at hl 0 rfl) ?_
            refine va_get (D := (dC, dI)) (ci := 0) (v := .ref (q 6)) (C := "EventPatterns") (T := TX) (N := 16) hx hb hbw inX hown hK hP 0 rfl rfl 7 (by decide) (hbw _ kf_X_25) (fun _ h9 => h9) rfl dX_step_80 ?_
            refine lv_aload_n hx hb dX_step_83 rfl (lv_at hl 0 rfl) ?_
            refine va_get (D := (dC, dI)) (ci := 0) (v := .int (nI (ms))) (C := "EventPatterns") (T := TX) (N := 16) hx hb hbw inX hown hK hP 0 rfl rfl 11 (by decide) (hbw _ kf_X_56) (fun _ h9 => h9) (congrArg (fun z => some (Value.int z)) (hf4)) dX_step_84 ?_
            refine lv_iload_n hx hb dX_step_87 rfl (lv_at hl 3 rfl) ?_
            refine nr_iast hx hb hK hP hD hS 6 0 rfl rfl (j := ms) (by omega) (by decide) dX_step_88 (fun H locs hP hD hS => ?_)
            have hP : va_P (dC, dI) cls2 (xw q cI cZ cG (va_up (va_up (va_up (a) 3 (upd (a 3) (ms) (ki))) 4 (upd (a 4) (ms) (te))) 5 (upd (a 5) (ms) (nn))) (f) (w)) H := hP
            have hD : va_D A (xw q cI cZ cG (va_up (va_up (va_up (a) 3 (upd (a 3) (ms) (ki))) 4 (upd (a 4) (ms) (te))) 5 (upd (a 5) (ms) (nn))) (f) (w)) := hD
            refine lv_aload_n hx hb dX_step_89 rfl (lv_at hl 0 rfl) ?_
            refine va_get (D := (dC, dI)) (ci := 0) (v := .ref (q 7)) (C := "EventPatterns") (T := TX) (N := 16) hx hb hbw inX hown hK hP 0 rfl rfl 8 (by decide) (hbw _ kf_X_28) (fun _ h9 => h9) rfl dX_step_90 ?_
            refine lv_aload_n hx hb dX_step_93 rfl (lv_at hl 0 rfl) ?_
            refine va_get (D := (dC, dI)) (ci := 0) (v := .int (nI (ms))) (C := "EventPatterns") (T := TX) (N := 16) hx hb hbw inX hown hK hP 0 rfl rfl 11 (by decide) (hbw _ kf_X_56) (fun _ h9 => h9) (congrArg (fun z => some (Value.int z)) (hf4)) dX_step_94 ?_
            refine lv_iload hx hb dX_step_97 (lv_at hl 4 rfl) ?_
            refine nr_zast hx hb hK hP hD hS 7 1 rfl rfl (j := ms) (by omega) (by decide) dX_step_99 (fun H locs hP hD hS => ?_)
            have hP : va_P (dC, dI) cls2 (xw q cI cZ cG (va_up (va_up (va_up (va_up (a) 3 (upd (a 3) (ms) (ki))) 4 (upd (a 4) (ms) (te))) 5 (upd (a 5) (ms) (nn))) 6 (upd (a 6) (ms) (vp_nar .boolean (mb)))) (f) (w)) H := hP
            have hD : va_D A (xw q cI cZ cG (va_up (va_up (va_up (va_up (a) 3 (upd (a 3) (ms) (ki))) 4 (upd (a 4) (ms) (te))) 5 (upd (a 5) (ms) (nn))) 6 (upd (a 6) (ms) (vp_nar .boolean (mb)))) (f) (w)) := hD
            refine lv_aload_n hx hb dX_step_100 rfl (lv_at hl 0 rfl) ?_
            refine lv_dup hx hb dX_step_101 rfl ?_
            refine va_get (D := (dC, dI)) (ci := 0) (v := .int (nI (ms))) (C := "EventPatterns") (T := TX) (N := 16) hx hb hbw inX hown hK hP 0 rfl rfl 11 (by decide) (hbw _ kf_X_56) (fun _ h9 => h9) (congrArg (fun z => some (Value.int z)) (hf4)) dX_step_102 ?_
            refine lv_iconst (v := 1) hx hb dX_step_105 (by decide) ?_
            refine nr_iadd hx hb (a1 := ms) (b1 := 1) dX_step_106 ?_
            refine va_put (D := (dC, dI)) (ci := 0) (v := .int (nI (ms + 1))) (ty := .int) (C := "EventPatterns") (T := TX) (N := 16) hx hb hbw inX tyX okX nmX hown hK hP hD hS 0 rfl rfl 11 (by decide) (hbw _ kf_X_56) (fun _ h9 => h9) rfl (by decide +kernel) rfl rfl (Nat.le_of_ble_eq_true rfl) dX_step_107 (fun H locs hP hD hS => ?_)
            have hP : va_P (dC, dI) cls2 (xw q cI cZ cG (va_up (va_up (va_up (va_up (a) 3 (upd (a 3) (ms) (ki))) 4 (upd (a 4) (ms) (te))) 5 (upd (a 5) (ms) (nn))) 6 (upd (a 6) (ms) (vp_nar .boolean (mb)))) (va_up (f) 4 (nI (ms + 1))) (w)) H := hP
            have hD : va_D A (xw q cI cZ cG (va_up (va_up (va_up (va_up (a) 3 (upd (a 3) (ms) (ki))) 4 (upd (a 4) (ms) (te))) 5 (upd (a 5) (ms) (nn))) 6 (upd (a 6) (ms) (vp_nar .boolean (mb)))) (va_up (f) 4 (nI (ms + 1))) (w)) := hD
            refine lv_aload_n hx hb dX_step_110 rfl (lv_at hl 0 rfl) ?_
            refine va_get (D := (dC, dI)) (ci := 0) (v := .int (nI (ms + 1))) (C := "EventPatterns") (T := TX) (N := 16) hx hb hbw inX hown hK hP 0 rfl rfl 11 (by decide) (hbw _ kf_X_56) (fun _ h9 => h9) rfl dX_step_111 ?_
            refine lv_iconst (v := 1) hx hb dX_step_114 (by decide) ?_
            refine nr_isub hx hb (a1 := ms + 1) (b1 := 1) (by omega) dX_step_115 ?_
            refine vx_ret ?_
            refine W.widen (k := 1) (n := 6) (by omega) (by omega) ?_
            exact W.iret (v := nI ((ms + 1) - 1)) hx hb hr (fun t ht hW => ⟨⟨nI ((ms + 1) - 1), (va_up (va_up (va_up (va_up a 3 (upd (a 3) ms ki)) 4 (upd (a 4) ms te)) 5 (upd (a 5) ms nn)) 6 (upd (a 6) ms (vp_nar .boolean mb)), va_up f 4 (nI (ms + 1)), w), rfl, ⟨⟨by rintro (h | h | h | h) <;> first | exact c_2 h | exact absurd c_9 (Int32.not_le.mpr h) | exact c_23 h | exact absurd c_28 (Int32.not_le.mpr h), by omega⟩, by rw [Nat.add_sub_cancel], rfl⟩, by rw [ht]; exact hP, va_K.moved hW.alike hK, hD⟩, hS.F ht⟩) hS.2.2 dX_step_116
          · obtain ⟨sa, hstr⟩ := hE.2.2.2.2 (92, "no room for more steps") (by decide)
            exact vx_throwS (text := "no room for more steps") (names := ["java/lang/RuntimeException", "java/lang/Exception"]) hx hb hE.1 hown (by decide) (by decide) (hbw _ kl_X_76) (hbw _ ki_java_lang_UnsupportedOperationException) hstr (xat_UOE hbw hE) xgd_UOE hE.2.1 hE.2.2.1 hS (hl.1.trans hml.symm) dX_step_49 dX_step_52 dX_step_53 dX_step_55 dX_step_58 (fun x hx => (hno x hx).elim) (Nat.le_of_ble_eq_true rfl) (Nat.le_of_ble_eq_true rfl) (Nat.le_of_ble_eq_true rfl) (Nat.le_of_ble_eq_true rfl) hlocks (fun t hal hle hkeep => ⟨(a, f, w), rfl, ⟨Or.inr ⟨rfl, by rintro (h | h | h | h) <;> first | exact c_2 h | exact absurd c_9 (Int32.not_le.mpr h) | exact c_23 h | exact absurd c_28 (Int32.not_le.mpr h), by omega⟩, hP.kept (fun k q hk => hkeep q.1 ((hP k q hk).lt)), va_K.moved hal hK, hD⟩, ⟨Nat.le_trans hS.1 hle, fun q h1 h2 => (hkeep q (Nat.lt_of_lt_of_le h1 hS.1)).trans (hS.2.1 q h1 h2)⟩⟩) hS.2.2 (Nat.le_of_ble_eq_true rfl) (Nat.le_of_ble_eq_true rfl)
        · obtain ⟨sa, hstr⟩ := hE.2.2.2.2 (90, "no such test") (by decide)
          exact vx_throwS (text := "no such test") (names := ["java/lang/RuntimeException", "java/lang/Exception"]) hx hb hE.1 hown (by decide) (by decide) (hbw _ kl_X_67) (hbw _ ki_java_lang_IllegalArgumentException) hstr (xat_IAE hbw hE) xgd_IAE hE.2.1 hE.2.2.1 hS (hl.1.trans hml.symm) dX_step_31 dX_step_34 dX_step_35 dX_step_37 dX_step_40 (fun x hx => (hno x hx).elim) (Nat.le_of_ble_eq_true rfl) (Nat.le_of_ble_eq_true rfl) (Nat.le_of_ble_eq_true rfl) (Nat.le_of_ble_eq_true rfl) hlocks (fun t hal hle hkeep => ⟨(a, f, w), rfl, ⟨Or.inl ⟨rfl, by first | exact Or.inl c_2 | exact Or.inr (Or.inl (Int32.not_le.mp c_9)) | exact Or.inr (Or.inr (Or.inl c_23)) | exact Or.inr (Or.inr (Or.inr (Int32.not_le.mp c_28)))⟩, hP.kept (fun k q hk => hkeep q.1 ((hP k q hk).lt)), va_K.moved hal hK, hD⟩, ⟨Nat.le_trans hS.1 hle, fun q h1 h2 => (hkeep q (Nat.lt_of_lt_of_le h1 hS.1)).trans (hS.2.1 q h1 h2)⟩⟩) hS.2.2 (Nat.le_of_ble_eq_true rfl) (Nat.le_of_ble_eq_true rfl)
    · obtain ⟨sa, hstr⟩ := hE.2.2.2.2 (88, "no such kinds") (by decide)
      exact vx_throwS (text := "no such kinds") (names := ["java/lang/RuntimeException", "java/lang/Exception"]) hx hb hE.1 hown (by decide) (by decide) (hbw _ kl_X_67) (hbw _ ki_java_lang_IllegalArgumentException) hstr (xat_IAE hbw hE) xgd_IAE hE.2.1 hE.2.2.1 hS (hl.1.trans hml.symm) dX_step_12 dX_step_15 dX_step_16 dX_step_18 dX_step_21 (fun x hx => (hno x hx).elim) (Nat.le_of_ble_eq_true rfl) (Nat.le_of_ble_eq_true rfl) (Nat.le_of_ble_eq_true rfl) (Nat.le_of_ble_eq_true rfl) hlocks (fun t hal hle hkeep => ⟨(a, f, w), rfl, ⟨Or.inl ⟨rfl, by first | exact Or.inl c_2 | exact Or.inr (Or.inl (Int32.not_le.mp c_9)) | exact Or.inr (Or.inr (Or.inl c_23)) | exact Or.inr (Or.inr (Or.inr (Int32.not_le.mp c_28)))⟩, hP.kept (fun k q hk => hkeep q.1 ((hP k q hk).lt)), va_K.moved hal hK, hD⟩, ⟨Nat.le_trans hS.1 hle, fun q h1 h2 => (hkeep q (Nat.lt_of_lt_of_le h1 hS.1)).trans (hS.2.1 q h1 h2)⟩⟩) hS.2.2 (Nat.le_of_ble_eq_true rfl) (Nat.le_of_ble_eq_true rfl)
set_option maxHeartbeats 4000000 in
set_option maxRecDepth 100000 in
/-- needSteps() -/
theorem tX_needSteps (l : Launch) (dC : Nat → ClassId) (dI : Nat → Nat → Nat) (q : Nat → Nat) (cI cZ cG : ClassId) (a : Nat → Nat → Int32) (f : Nat → Int32) (w : Nat → Nat → Int32) (sz : Nat) (ms : Nat) (hm : ms ≤ 5) (hf4 : f 4 = nI ms) : vx_Met l yX_needSteps wX_needSteps ({ frames := 6, cells := 1, slots := 6, locals := 90 }) (va_Pc [.ref (q 0)] (fun U => U.heap.size = sz ∧ va_P (dC, dI) cls2 (xw q cI cZ cG a f w) U.heap ∧ va_K (dC, dI) cls2 (xt cI cZ cG) U ∧ va_D (fun _ => True) (xw q cI cZ cG a f w) ∧ xE l (va_A (xw q cI cZ cG a f w) sz) U U.heap)) (va_Qv (fun (u : XS) => 1 ≤ ms ∧ u = (a, f, w)) (atX dC dI q cI cZ cG (va_A (xw q cI cZ cG a f w) sz)) (va_A (xw q cI cZ cG a f w) sz)) (vx_X (fun u : XS => u = (a, f, w)) (fun E u t => (E = "java/lang/IllegalStateException" ∧ ms = 0) ∧ atX dC dI q cI cZ cG (va_A (xw q cI cZ cG a f w) sz) u t) (va_A (xw q cI cZ cG a f w) sz)) 1 6 (va_A (xw q cI cZ cG a f w) sz) := by
  refine vx_ofW (cc := cX_needSteps) (maxL := 1) (ret := none) (by decide) rfl ?_
  intro p e s m args below meth c s₁ B hml hno hv
  obtain ⟨rfl, hsz, hP, hK, hD0, hE⟩ := hv
  have hx := B.exec
  have hb := B.bytes
  have hr := B.returns
  have hbw : ∀ w ∈ bw, w.before _ s = true := fun w h => atoms_spec (ws := wX_needSteps) B.pre w (List.mem_cons_of_mem _ h)
  have hown : s.vm.findClass "EventPatterns" = some m.cls := findClass_of_methodNamed B.named
  have hlocks := B.notSynchronized
  subst hsz
  have hD := hD0.self (sz := s.heap.size)
  generalize hAe : va_A (xw q cI cZ cG a f w) s.heap.size = A at hD hE ⊢
  have hA : ∀ q : Nat, s.heap.size ≤ q → A q := fun q h => by rw [← hAe]; exact Or.inr h
  have hS : va_S A s.heap s.heap [] := va_S.rf
  have hl := lv_entry ([.ref (q 0)]) (n := 1) (Nat.le_of_ble_eq_true rfl)
  rw [lg_entry_eq]
  generalize (lg_sl ([.ref (q 0)]) ++ List.replicate (1 - (lg_sl ([.ref (q 0)])).length) Slot.unset).toArray = ls at hl ⊢
  have hl : lv_has ls 1 [(0, .ref (q 0))] := hl
  refine lv_aload_n hx hb dX_needSteps_0 rfl (lv_at hl 0 rfl) ?_
  refine va_get (D := (dC, dI)) (ci := 0) (v := .int (nI (ms))) (C := "EventPatterns") (T := TX) (N := 16) hx hb hbw inX hown hK hP 0 rfl rfl 11 (by decide) (hbw _ kf_X_56) (fun _ h9 => h9) (congrArg (fun z => some (Value.int z)) (hf4)) dX_needSteps_1 ?_
  refine nr_if_ne (tgt := 17) hx hb (a1 := ms) (by omega) dX_needSteps_4 (by decide) (fun c_4 => ?_) (fun c_4 => ?_)
  · refine vx_ret ?_
    refine W.widen (k := 1) (n := 6) (by omega) (by omega) ?_
    exact W.vret hx hb hr (fun t ht hW => ⟨⟨(a, f, w), rfl, ⟨by omega, rfl⟩, by rw [ht]; exact hP, va_K.moved hW.alike hK, hD⟩, hS.F ht⟩) hS.2.2 dX_needSteps_17
  · obtain ⟨sa, hstr⟩ := hE.2.2.2.2 (114, "the pattern has no steps") (by decide)
    exact vx_throwS (text := "the pattern has no steps") (names := ["java/lang/RuntimeException", "java/lang/Exception"]) hx hb hE.1 hown (by decide) (by decide) (hbw _ kl_X_112) (hbw _ ki_java_lang_IllegalStateException) hstr (xat_ISE hbw hE) xgd_ISE hE.2.1 hE.2.2.1 hS (hl.1.trans hml.symm) dX_needSteps_7 dX_needSteps_10 dX_needSteps_11 dX_needSteps_13 dX_needSteps_16 (fun x hx => (hno x hx).elim) (Nat.le_of_ble_eq_true rfl) (Nat.le_of_ble_eq_true rfl) (Nat.le_of_ble_eq_true rfl) (Nat.le_of_ble_eq_true rfl) hlocks (fun t hal hle hkeep => ⟨(a, f, w), rfl, ⟨⟨rfl, by omega⟩, hP.kept (fun k q hk => hkeep q.1 ((hP k q hk).lt)), va_K.moved hal hK, hD⟩, ⟨Nat.le_trans hS.1 hle, fun q h1 h2 => (hkeep q (Nat.lt_of_lt_of_le h1 hS.1)).trans (hS.2.1 q h1 h2)⟩⟩) hS.2.2 (Nat.le_of_ble_eq_true rfl) (Nat.le_of_ble_eq_true rfl)
def xDropS (a : Nat → Nat → Int32) (pl : Nat) : Nat → Nat → Int32 := va_up (va_up (va_up a 0 (upd (a 0) (pl - 1) (a 0 pl))) 1 (upd (a 1) (pl - 1) (a 1 pl))) 2 (upd (a 2) (pl - 1) (a 2 pl))
def xDropL : Nat → Nat → (Nat → Nat → Int32) → (Nat → Nat → Int32)
  | 0, _, a => a
  | k + 1, pl, a => if pl < 16 then xDropL k (pl + 1) (xDropS a pl) else a
theorem xDropL_out {k pl : Nat} {a : Nat → Nat → Int32} (h : 16 ≤ pl) : xDropL (k + 1) pl a = a := by rw [xDropL, if_neg (by omega)]
theorem xDropL_in {k pl : Nat} {a : Nat → Nat → Int32} (hk : 1 ≤ k) (h : pl < 16) : xDropL (k + 1) pl a = xDropL (k - 1 + 1) (pl + 1) (xDropS a pl) := by rw [xDropL, if_pos h, show k - 1 + 1 = k by omega]
set_option maxHeartbeats 4000000 in
set_option maxRecDepth 100000 in
theorem lX_dropOldest (l : Launch) (dC : Nat → ClassId) (dI : Nat → Nat → Nat) (q : Nat → Nat) (cI cZ cG : ClassId) (f : Nat → Int32) (w : Nat → Nat → Int32) {p : Program} {e : Env} {s : State} {m : MethodId} {args : Array Value} {below : List Frame} {meth : Method} {c : Code} {Q : State → Prop} {A : Nat → Prop} {cells slots : Nat} (hx : p.tables.exec = Jvm.exec) (hb : c.code = cX_dropOldest) (hml : c.maxLocals = 2) (hown : s.vm.findClass "EventPatterns" = some m.cls) (hbw : ∀ w ∈ bw, w.before args s = true) (hK : va_K (dC, dI) cls2 (xt cI cZ cG) s) :
    ∀ (k pl : Nat) (a : Nat → Nat → Int32) (H : Heap) (locs : List Loc) (ls : Array Slot), 16 ≤ pl + k → 1 ≤ pl → pl ≤ 16 → lv_has ls 2 [(1, .int (nI pl)), (0, .ref (q 0))] → va_P (dC, dI) cls2 (xw q cI cZ cG a f w) H → va_D A (xw q cI cZ cG a f w) → va_S A s.heap H locs →
      (∀ (H : Heap) (locs : List Loc) (ls : Array Slot), lv_has ls 2 [(0, .ref (q 0))] → va_P (dC, dI) cls2 (xw q cI cZ cG (xDropL (k + 1) pl a) (f) (w)) H → va_D A (xw q cI cZ cG (xDropL (k + 1) pl a) (f) (w)) → va_S A s.heap H locs → W p l e ({ frames := 0, cells := 0, slots := 0, locals := 0 }) s m args below meth c H locs cells slots Q (F0 m 56 ls [])) → W p l e ({ frames := 0, cells := 0, slots := 0, locals := 0 }) s m args below meth c H locs cells slots Q (F0 m 2 ls []) := by
  intro k
  induction k using Nat.strongRecOn with
  | ind k ih =>
    intro pl a H locs ls hk h1 h2 hl hP hD hS kk
    refine lv_iload_n hx hb dX_dropOldest_2 rfl (lv_at hl 0 rfl) ?_
    refine lv_bipush (v := 16) hx hb dX_dropOldest_3 (by decide) ?_
    refine nr_icmp_ge (tgt := 56) hx hb (a1 := pl) (b1 := 16) (by omega) (by omega) dX_dropOldest_5 (by decide) (fun c_5 => ?_) (fun c_5 => ?_)
    · rw [xDropL_out c_5] at kk
      exact kk H locs ls (lv_sub hl [1] rfl) hP hD hS
    · refine lv_aload_n hx hb dX_dropOldest_8 rfl (lv_at hl 1 rfl) ?_
      refine va_get (D := (dC, dI)) (ci := 0) (v := .ref (q 1)) (C := "EventPatterns") (T := TX) (N := 16) hx hb hbw inX hown hK hP 0 rfl rfl 0 (by decide) (hbw _ kf_X_9) (fun _ h9 => h9) rfl dX_dropOldest_9 ?_
      refine lv_iload_n hx hb dX_dropOldest_12 rfl (lv_at hl 0 rfl) ?_
      refine lv_iconst (v := 1) hx hb dX_dropOldest_13 (by decide) ?_
      refine nr_isub hx hb (a1 := pl) (b1 := 1) (by omega) dX_dropOldest_14 ?_
      refine lv_aload_n hx hb dX_dropOldest_15 rfl (lv_at hl 1 rfl) ?_
      refine va_get (D := (dC, dI)) (ci := 0) (v := .ref (q 1)) (C := "EventPatterns") (T := TX) (N := 16) hx hb hbw inX hown hK hP 0 rfl rfl 0 (by decide) (hbw _ kf_X_9) (fun _ h9 => h9) rfl dX_dropOldest_16 ?_
      refine lv_iload_n hx hb dX_dropOldest_19 rfl (lv_at hl 0 rfl) ?_
      refine nr_iald hx hb hK hP 1 0 rfl rfl (j := pl) (by omega) (by decide) dX_dropOldest_20 ?_
      refine nr_iast hx hb hK hP hD hS 1 0 rfl rfl (j := pl - 1) (by omega) (by decide) dX_dropOldest_21 (fun H locs hP hD hS => ?_)
      have hP : va_P (dC, dI) cls2 (xw q cI cZ cG (va_up (a) 0 (upd (a 0) (pl - 1) ((a 0) (pl)))) (f) (w)) H := hP
      have hD : va_D A (xw q cI cZ cG (va_up (a) 0 (upd (a 0) (pl - 1) ((a 0) (pl)))) (f) (w)) := hD
      refine lv_aload_n hx hb dX_dropOldest_22 rfl (lv_at hl 1 rfl) ?_
      refine va_get (D := (dC, dI)) (ci := 0) (v := .ref (q 2)) (C := "EventPatterns") (T := TX) (N := 16) hx hb hbw inX hown hK hP 0 rfl rfl 1 (by decide) (hbw _ kf_X_13) (fun _ h9 => h9) rfl dX_dropOldest_23 ?_
      refine lv_iload_n hx hb dX_dropOldest_26 rfl (lv_at hl 0 rfl) ?_
      refine lv_iconst (v := 1) hx hb dX_dropOldest_27 (by decide) ?_
      refine nr_isub hx hb (a1 := pl) (b1 := 1) (by omega) dX_dropOldest_28 ?_
      refine lv_aload_n hx hb dX_dropOldest_29 rfl (lv_at hl 1 rfl) ?_
      refine va_get (D := (dC, dI)) (ci := 0) (v := .ref (q 2)) (C := "EventPatterns") (T := TX) (N := 16) hx hb hbw inX hown hK hP 0 rfl rfl 1 (by decide) (hbw _ kf_X_13) (fun _ h9 => h9) rfl dX_dropOldest_30 ?_
      refine lv_iload_n hx hb dX_dropOldest_33 rfl (lv_at hl 0 rfl) ?_
      refine nr_iald hx hb hK hP 2 0 rfl rfl (j := pl) (by omega) (by decide) dX_dropOldest_34 ?_
      refine nr_iast hx hb hK hP hD hS 2 0 rfl rfl (j := pl - 1) (by omega) (by decide) dX_dropOldest_35 (fun H locs hP hD hS => ?_)
      have hP : va_P (dC, dI) cls2 (xw q cI cZ cG (va_up (va_up (a) 0 (upd (a 0) (pl - 1) ((a 0) (pl)))) 1 (upd (a 1) (pl - 1) ((a 1) (pl)))) (f) (w)) H := hP
      have hD : va_D A (xw q cI cZ cG (va_up (va_up (a) 0 (upd (a 0) (pl - 1) ((a 0) (pl)))) 1 (upd (a 1) (pl - 1) ((a 1) (pl)))) (f) (w)) := hD
      refine lv_aload_n hx hb dX_dropOldest_36 rfl (lv_at hl 1 rfl) ?_
      refine va_get (D := (dC, dI)) (ci := 0) (v := .ref (q 3)) (C := "EventPatterns") (T := TX) (N := 16) hx hb hbw inX hown hK hP 0 rfl rfl 2 (by decide) (hbw _ kf_X_16) (fun _ h9 => h9) rfl dX_dropOldest_37 ?_
      refine lv_iload_n hx hb dX_dropOldest_40 rfl (lv_at hl 0 rfl) ?_
      refine lv_iconst (v := 1) hx hb dX_dropOldest_41 (by decide) ?_
      refine nr_isub hx hb (a1 := pl) (b1 := 1) (by omega) dX_dropOldest_42 ?_
      refine lv_aload_n hx hb dX_dropOldest_43 rfl (lv_at hl 1 rfl) ?_
      refine va_get (D := (dC, dI)) (ci := 0) (v := .ref (q 3)) (C := "EventPatterns") (T := TX) (N := 16) hx hb hbw inX hown hK hP 0 rfl rfl 2 (by decide) (hbw _ kf_X_16) (fun _ h9 => h9) rfl dX_dropOldest_44 ?_
      refine lv_iload_n hx hb dX_dropOldest_47 rfl (lv_at hl 0 rfl) ?_
      refine nr_iald hx hb hK hP 3 0 rfl rfl (j := pl) (by omega) (by decide) dX_dropOldest_48 ?_
      refine nr_iast hx hb hK hP hD hS 3 0 rfl rfl (j := pl - 1) (by omega) (by decide) dX_dropOldest_49 (fun H locs hP hD hS => ?_)
      have hP : va_P (dC, dI) cls2 (xw q cI cZ cG (va_up (va_up (va_up (a) 0 (upd (a 0) (pl - 1) ((a 0) (pl)))) 1 (upd (a 1) (pl - 1) ((a 1) (pl)))) 2 (upd (a 2) (pl - 1) ((a 2) (pl)))) (f) (w)) H := hP
      have hD : va_D A (xw q cI cZ cG (va_up (va_up (va_up (a) 0 (upd (a 0) (pl - 1) ((a 0) (pl)))) 1 (upd (a 1) (pl - 1) ((a 1) (pl)))) 2 (upd (a 2) (pl - 1) ((a 2) (pl)))) (f) (w)) := hD
      refine lv_iinc (v := nI (pl + 1)) (lv' := [(1, .int (nI (pl + 1))), (0, .ref (q 0))]) hx hb dX_dropOldest_50 hl (k := 0) rfl (nI_1 _) (by decide) rfl (fun ls hl => ?_)
      refine lv_goto (tgt := 2) hx hb dX_dropOldest_53 (by decide) ?_
      exact ih (k - 1) (by omega) (pl + 1) (xDropS a pl) _ _ ls (by omega) (by omega) (by omega) (lv_sub hl [0, 1] rfl) hP hD hS (fun H locs ls hl hP hD hS => by rw [xDropL_in (by omega) c_5] at kk; exact kk H locs ls hl hP hD hS)
set_option maxHeartbeats 4000000 in
set_option maxRecDepth 100000 in
/-- dropOldest() -/
theorem tX_dropOldest (l : Launch) (dC : Nat → ClassId) (dI : Nat → Nat → Nat) (q : Nat → Nat) (cI cZ cG : ClassId) (a : Nat → Nat → Int32) (f : Nat → Int32) (w : Nat → Nat → Int32) (sz : Nat)   : Met l yX_dropOldest wX_dropOldest ({ frames := 0, cells := 0, slots := 0, locals := 0 }) (va_Pc [.ref (q 0)] (fun U => U.heap.size = sz ∧ va_P (dC, dI) cls2 (xw q cI cZ cG a f w) U.heap ∧ va_K (dC, dI) cls2 (xt cI cZ cG) U ∧ va_D (fun _ => True) (xw q cI cZ cG a f w))) (va_Qv (fun (u : XS) => ∃ a1 : Nat → Nat → Int32, a1 = xDropL 16 1 a ∧ u = (a1, va_up f 1 15, w)) (atX dC dI q cI cZ cG (va_A (xw q cI cZ cG a f w) sz)) (va_A (xw q cI cZ cG a f w) sz)) 0 0 (va_A (xw q cI cZ cG a f w) sz) := by
  refine Met.ofW (cc := cX_dropOldest) (maxL := 2) (ret := none) (by decide) rfl ?_
  intro p e s m args below meth c s₁ B hml hv
  obtain ⟨rfl, hsz, hP, hK, hD0⟩ := hv
  have hx := B.exec
  have hb := B.bytes
  have hr := B.returns
  have hbw : ∀ w ∈ bw, w.before _ s = true := fun w h => atoms_spec (ws := wX_dropOldest) B.pre w (List.mem_cons_of_mem _ h)
  have hown : s.vm.findClass "EventPatterns" = some m.cls := findClass_of_methodNamed B.named
  have hlocks := B.notSynchronized
  subst hsz
  have hD := hD0.self (sz := s.heap.size)
  generalize hAe : va_A (xw q cI cZ cG a f w) s.heap.size = A at hD ⊢
  have hA : ∀ q : Nat, s.heap.size ≤ q → A q := fun q h => by rw [← hAe]; exact Or.inr h
  have hS : va_S A s.heap s.heap [] := va_S.rf
  have hl := lv_entry ([.ref (q 0)]) (n := 2) (Nat.le_of_ble_eq_true rfl)
  rw [lg_entry_eq]
  generalize (lg_sl ([.ref (q 0)]) ++ List.replicate (2 - (lg_sl ([.ref (q 0)])).length) Slot.unset).toArray = ls at hl ⊢
  have hl : lv_has ls 2 [(0, .ref (q 0))] := hl
  refine lv_iconst (v := 1) hx hb dX_dropOldest_0 (by decide) ?_
  refine lv_istore_n (lv' := [(1, .int (1)), (0, .ref (q 0))]) hx hb dX_dropOldest_1 rfl hl (by decide) rfl (fun ls hl => ?_)
  refine lX_dropOldest l dC dI q cI cZ cG f w hx hb hml hown hbw hK 15 1 a s.heap [] ls (by omega) (by omega) (by omega) (lv_sub hl [0, 1] rfl) hP hD hS (fun H locs ls hl hP hD hS => ?_)
  refine lv_aload_n hx hb dX_dropOldest_56 rfl (lv_at hl 0 rfl) ?_
  refine lv_bipush (v := 15) hx hb dX_dropOldest_57 (by decide) ?_
  refine va_put (D := (dC, dI)) (ci := 0) (v := .int (15)) (ty := .int) (C := "EventPatterns") (T := TX) (N := 16) hx hb hbw inX tyX okX nmX hown hK hP hD hS 0 rfl rfl 4 (by decide) (hbw _ kf_X_47) (fun _ h9 => h9) rfl (by decide +kernel) rfl rfl (Nat.le_of_ble_eq_true rfl) dX_dropOldest_59 (fun H locs hP hD hS => ?_)
  have hP : va_P (dC, dI) cls2 (xw q cI cZ cG (xDropL 16 1 a) (va_up (f) 1 (15)) (w)) H := hP
  have hD : va_D A (xw q cI cZ cG (xDropL 16 1 a) (va_up (f) 1 (15)) (w)) := hD
  exact W.vret hx hb hr (fun t ht hW => ⟨⟨(xDropL 16 1 a, va_up f 1 15, w), rfl, ⟨_, rfl, rfl⟩, by rw [ht]; exact hP, va_K.moved hW.alike hK, hD⟩, hS.F ht⟩) hS.2.2 dX_dropOldest_62
end
section
/-! THE CLASS: event, and the calls that look for matches -/
theorem xAddA_lo {a : Nat → Nat → Int32} {L pl st i : Nat} (h : i ≤ 6) : xAddA a L pl st i = a i := by
  unfold xAddA
  rw [va_up_ne _ _ (by omega), va_up_ne _ _ (by omega)]
theorem xWalkL_frame (w : Nat → Nat → Int32) (n ms fi : Nat) (hn : n ≤ 16) : ∀ (k nx : Nat) (left : Int32) (pl st L : Nat) (a : Nat → Nat → Int32) (f : Nat → Int32), f 5 = nI L → L + fi ≤ nx → nx ≤ 16 →
    (∀ i, i ≤ 6 → (xWalkL w n ms fi k nx left pl st L a f).1 i = a i) ∧ (∀ i, i ≠ 5 → (xWalkL w n ms fi k nx left pl st L a f).2.1 i = f i) ∧ ∃ L', L' ≤ 16 ∧ (xWalkL w n ms fi k nx left pl st L a f).2.1 5 = nI L' := by
  intro k
  induction k with
  | zero => intro nx left pl st L a f h5 hL hx; exact ⟨fun _ _ => rfl, fun _ _ => rfl, L, by omega, h5⟩
  | succ k ih =>
    intro nx left pl st L a f h5 hL hx
    have base : (∀ i, i ≤ 6 → (a, f, w).1 i = a i) ∧ (∀ i, i ≠ 5 → (a, f, w).2.1 i = f i) ∧ ∃ L', L' ≤ 16 ∧ (a, f, w).2.1 5 = nI L' := ⟨fun _ _ => rfl, fun _ _ => rfl, L, by omega, h5⟩
    have go : ∀ lf : Int32, nx < n → (∀ i, i ≤ 6 → (xWalkG (xWalkL w n ms fi k) w ms fi nx lf pl st L a f).1 i = a i) ∧ (∀ i, i ≠ 5 → (xWalkG (xWalkL w n ms fi k) w ms fi nx lf pl st L a f).2.1 i = f i) ∧ ∃ L', L' ≤ 16 ∧ (xWalkG (xWalkL w n ms fi k) w ms fi nx lf pl st L a f).2.1 5 = nI L' := by
      intro lf hnx
      unfold xWalkG
      split
      · exact base
      · split
        · have st2 : ∀ (lf2 : Int32) (p2 s2 : Nat), (∀ i, i ≤ 6 → (xWalkL w n ms fi k (nx + 1) lf2 nx s2 (L + 1) (xAddA a L nx s2) (va_up f 5 (nI (L + 1)))).1 i = a i) ∧ (∀ i, i ≠ 5 → (xWalkL w n ms fi k (nx + 1) lf2 nx s2 (L + 1) (xAddA a L nx s2) (va_up f 5 (nI (L + 1)))).2.1 i = f i) ∧ ∃ L', L' ≤ 16 ∧ (xWalkL w n ms fi k (nx + 1) lf2 nx s2 (L + 1) (xAddA a L nx s2) (va_up f 5 (nI (L + 1)))).2.1 5 = nI L' := by
            intro lf2 p2 s2
            obtain ⟨i1, i2, i3⟩ := ih (nx + 1) lf2 nx s2 (L + 1) (xAddA a L nx s2) (va_up f 5 (nI (L + 1))) (va_up_self _ _ _) (by omega) (by omega)
            exact ⟨fun i hi => (i1 i hi).trans (xAddA_lo hi), fun i hi => (i2 i hi).trans (va_up_ne _ _ hi), i3⟩
          split
          · exact st2 _ 0 _
          · exact st2 _ 0 _
        · exact ih _ _ _ _ _ _ _ h5 (by omega) (by omega)
    unfold xWalkL
    split
    · rename_i hnx
      split
      · split
        · exact base
        · exact go _ hnx
      · exact go _ hnx
    · exact base
theorem xWalk_frame (a : Nat → Nat → Int32) (f : Nat → Int32) (w : Nat → Nat → Int32) (n ms fi : Nat) (left : Int32) (hn : n ≤ 16) (hfi : fi < n) :
    (∀ i, i ≤ 6 → (xWalk a f w n ms fi left).1 i = a i) ∧ (∀ i, i ≠ 5 → (xWalk a f w n ms fi left).2.1 i = f i) ∧ ∃ L', L' ≤ 16 ∧ (xWalk a f w n ms fi left).2.1 5 = nI L' := by
  obtain ⟨i1, i2, i3⟩ := xWalkL_frame w n ms fi hn (n + 1) (fi + 1) left fi 0 1 (xAddA a 0 fi 0) (va_up (va_up f 5 0) 5 (nI (0 + 1))) (va_up_self _ _ _) (by omega) (by omega)
  exact ⟨fun i hi => (i1 i hi).trans (xAddA_lo hi), fun i hi => (i2 i hi).trans ((va_up_ne _ _ hi).trans (va_up_ne _ _ hi)), i3⟩
theorem xFindL_frame (a : Nat → Nat → Int32) (f : Nat → Int32) (n ms : Nat) (hn : n ≤ 16) : ∀ (k fi : Nat) (left : Int32) (w : Nat → Nat → Int32),
    (∀ i, i ≤ 6 → (xFindL a f n ms k fi left w).2.1 i = a i) ∧ (∀ i, i ≠ 5 → (xFindL a f n ms k fi left w).2.2.1 i = f i) ∧ ((xFindL a f n ms k fi left w).1 = true → ∃ L', L' ≤ 16 ∧ (xFindL a f n ms k fi left w).2.2.1 5 = nI L') := by
  intro k
  induction k with
  | zero => intro fi left w; exact ⟨fun _ _ => rfl, fun _ _ => rfl, fun h => by cases h⟩
  | succ k ih =>
    intro fi left w
    unfold xFindL
    split
    · rename_i hfi
      split
      · obtain ⟨i1, i2, i3⟩ := xWalk_frame a f (xFromW a f n ms fi 0 w) n ms fi left hn hfi
        exact ⟨i1, i2, fun _ => i3⟩
      · exact ih _ _ _
    · exact ⟨fun _ _ => rfl, fun _ _ => rfl, fun h => by cases h⟩
theorem xFind_frame (a : Nat → Nat → Int32) (f : Nat → Int32) (w : Nat → Nat → Int32) (n ms : Nat) (kk : Int32) (hn : n ≤ 16) :
    (∀ i, i ≤ 6 → (xFind a f w n ms kk).2.1 i = a i) ∧ (∀ i, i ≠ 5 → (xFind a f w n ms kk).2.2.1 i = f i) ∧ ((xFind a f w n ms kk).1 = true → ∃ L', L' ≤ 16 ∧ (xFind a f w n ms kk).2.2.1 5 = nI L') := by
  unfold xFind
  split
  · exact ⟨fun _ _ => rfl, fun _ _ => rfl, fun h => by cases h⟩
  · exact xFindL_frame a f n ms hn _ _ _ _
def xEvA (a : Nat → Nat → Int32) (n : Nat) (tm kd va : Int32) : Nat → Nat → Int32 := va_up (va_up (va_up a 0 (upd (a 0) n tm)) 1 (upd (a 1) n kd)) 2 (upd (a 2) n va)
def xLate (a : Nat → Nat → Int32) (n : Nat) : Int32 := if n = 0 then 0 else a 0 (n - 1)
def evBad (a : Nat → Nat → Int32) (n : Nat) (tm kd : Int32) : Prop := tm < xLate a n ∨ 1000000 < tm ∨ kd < 0 ∨ 7 < kd
def xEv (a : Nat → Nat → Int32) (f : Nat → Int32) (w : Nat → Nat → Int32) (n cm : Nat) (tm kd va : Int32) : XS := if n < 16 then (xEvA a n tm kd va, va_up (va_up f 1 (nI (n + 1))) 0 (nI (cm + 1)), w) else (xEvA (xDropL 16 1 a) 15 tm kd va, va_up (va_up (va_up f 1 15) 1 (nI (15 + 1))) 0 (nI (cm + 1)), w)
set_option maxHeartbeats 4000000 in
set_option maxRecDepth 100000 in
/-- needMatch(k) -/
theorem tX_needMatch (l : Launch) (dC : Nat → ClassId) (dI : Nat → Nat → Nat) (q : Nat → Nat) (cI cZ cG : ClassId) (a : Nat → Nat → Int32) (f : Nat → Int32) (w : Nat → Nat → Int32) (sz : Nat) (n ms : Nat) (kk : Int32) (hn : n ≤ 16) (hf1 : f 1 = nI n) (h0 : 1 ≤ ms) (hm : ms ≤ 5) (hf4 : f 4 = nI ms)  : vx_Met l yX_needMatch wX_needMatch ({ frames := 6, cells := 1, slots := 6, locals := 123 }) (va_Pc [.ref (q 0), .int (kk)] (fun U => U.heap.size = sz ∧ va_P (dC, dI) cls2 (xw q cI cZ cG a f w) U.heap ∧ va_K (dC, dI) cls2 (xt cI cZ cG) U ∧ va_D (fun _ => True) (xw q cI cZ cG a f w) ∧ xE l (va_A (xw q cI cZ cG a f w) sz) U U.heap)) (va_Qv (fun (u : XS) => (xFind a f w n ms kk).1 = true ∧ u = (xFind a f w n ms kk).2) (atX dC dI q cI cZ cG (va_A (xw q cI cZ cG a f w) sz)) (va_A (xw q cI cZ cG a f w) sz)) (vx_X (fun u : XS => u = (xFind a f w n ms kk).2) (fun E u t => (E = "java/lang/IndexOutOfBoundsException" ∧ (xFind a f w n ms kk).1 = false) ∧ atX dC dI q cI cZ cG (va_A (xw q cI cZ cG a f w) sz) u t) (va_A (xw q cI cZ cG a f w) sz)) 1 6 (va_A (xw q cI cZ cG a f w) sz) := by
  refine vx_ofW (cc := cX_needMatch) (maxL := 2) (ret := none) (by decide) rfl ?_
  intro p e s m args below meth c s₁ B hml hno hv
  obtain ⟨rfl, hsz, hP, hK, hD0, hE⟩ := hv
  have hx := B.exec
  have hb := B.bytes
  have hr := B.returns
  have hbw : ∀ w ∈ bw, w.before _ s = true := fun w h => atoms_spec (ws := wX_needMatch) B.pre w (List.mem_cons_of_mem _ h)
  have hown : s.vm.findClass "EventPatterns" = some m.cls := findClass_of_methodNamed B.named
  have hlocks := B.notSynchronized
  subst hsz
  have hD := hD0.self (sz := s.heap.size)
  generalize hAe : va_A (xw q cI cZ cG a f w) s.heap.size = A at hD hE ⊢
  have hA : ∀ q : Nat, s.heap.size ≤ q → A q := fun q h => by rw [← hAe]; exact Or.inr h
  have hS : va_S A s.heap s.heap [] := va_S.rf
  have hl := lv_entry ([.ref (q 0), .int (kk)]) (n := 2) (Nat.le_of_ble_eq_true rfl)
  rw [lg_entry_eq]
  generalize (lg_sl ([.ref (q 0), .int (kk)]) ++ List.replicate (2 - (lg_sl ([.ref (q 0), .int (kk)])).length) Slot.unset).toArray = ls at hl ⊢
  have hl : lv_has ls 2 [(0, .ref (q 0)), (1, .int (kk))] := hl
  refine lv_aload_n hx hb dX_needMatch_0 rfl (lv_at hl 0 rfl) ?_
  refine lv_iload_n hx hb dX_needMatch_1 rfl (lv_at hl 1 rfl) ?_
  have hFc := va_free (wc := xw q cI cZ cG (a) (f) (w)) hD hS hA (List.range 27) rfl
  refine va_calli (va_runV (As := [.int (kk)]) (rest := []) ⟨hx, hb, hml, hown, hbw⟩ (tX_find l dC dI q cI cZ cG a f w s.heap.size n ms kk hn hf1 h0 hm hf4) (cwV 1 hbw (bw_V km_X_117 ki_yX_find ksel_yX_find ki_EventPatterns kcX_find) rfl rfl rfl (by decide +kernel) ⟨Nat.le_of_ble_eq_true rfl, Nat.le_of_ble_eq_true rfl⟩) ⟨fun a U g mk q => by obtain ⟨q0, q1, qP, qK, qD⟩ := q; exact ⟨q0, q1, qP, va_K.moved (u := U) (U := U.calling g mk a) (Vm.Alike.refl U.vm) qK, qD⟩, va_recv hK hP (ci := 0) (q0 := 0) rfl rfl, fun U hU hW => ⟨rfl, by rw [hU], by rw [hU]; exact hP, va_K.moved hW.alike hK, hD.weaken (fun _ _ _ _ => trivial)⟩⟩ rfl rfl hl.1 rfl (lv_room (Nat.le_of_ble_eq_true rfl)) dX_needMatch_2 ⟨Nat.le_of_ble_eq_true rfl, Nat.le_of_ble_eq_true rfl⟩) hS (fun q _ h => hFc q h) hFc (fun r_2 u t H1 locs ht hvm hq hB hz1 hk1 hS => ?_)
  obtain ⟨rfl, rfl⟩ := hq
  obtain ⟨hP1, hK1, hD1⟩ := hB
  rw [ht] at hP1
  have hP : va_P (dC, dI) cls2 (xw q cI cZ cG ((xFind a f w n ms kk).2.1) ((xFind a f w n ms kk).2.2.1) ((xFind a f w n ms kk).2.2.2)) H1 := hP1
  have hD : va_D A (xw q cI cZ cG ((xFind a f w n ms kk).2.1) ((xFind a f w n ms kk).2.2.1) ((xFind a f w n ms kk).2.2.2)) := hD1.weaken (fun _ _ _ h => hFc _ h)
  generalize H1 = H at hP hS ⊢
  refine nr_ifb_ne (tgt := 18) hx hb (b := ((xFind a f w n ms kk).1)) dX_needMatch_5 (by decide) (fun c_5 => ?_) (fun c_5 => ?_)
  · refine vx_ret ?_
    refine W.widen (k := 1) (n := 6) (by omega) (by omega) ?_
    exact W.vret hx hb hr (fun t ht hW => ⟨⟨(xFind a f w n ms kk).2, rfl, ⟨c_5, rfl⟩, by rw [ht]; exact hP, va_K.moved hW.alike hK, hD⟩, hS.F ht⟩) hS.2.2 dX_needMatch_18
  · obtain ⟨sa, hstr⟩ := hE.2.2.2.2 (121, "no such match") (by decide)
    exact vx_throwS (text := "no such match") (names := ["java/lang/RuntimeException", "java/lang/Exception"]) hx hb hE.1 hown (by decide) (by decide) (hbw _ kl_X_105) (hbw _ ki_java_lang_IndexOutOfBoundsException) hstr (xat_IOE hbw hE) xgd_IOE hE.2.1 hE.2.2.1 hS (hl.1.trans hml.symm) dX_needMatch_8 dX_needMatch_11 dX_needMatch_12 dX_needMatch_14 dX_needMatch_17 (fun x hx => (hno x hx).elim) (Nat.le_of_ble_eq_true rfl) (Nat.le_of_ble_eq_true rfl) (Nat.le_of_ble_eq_true rfl) (Nat.le_of_ble_eq_true rfl) hlocks (fun t hal hle hkeep => ⟨(xFind a f w n ms kk).2, rfl, ⟨⟨rfl, c_5⟩, hP.kept (fun k q hk => hkeep q.1 ((hP k q hk).lt)), va_K.moved hal hK, hD⟩, ⟨Nat.le_trans hS.1 hle, fun q h1 h2 => (hkeep q (Nat.lt_of_lt_of_le h1 hS.1)).trans (hS.2.1 q h1 h2)⟩⟩) hS.2.2 (Nat.le_of_ble_eq_true rfl) (Nat.le_of_ble_eq_true rfl)
set_option maxHeartbeats 4000000 in
set_option maxRecDepth 100000 in
/-- count() -/
theorem tX_count (l : Launch) (dC : Nat → ClassId) (dI : Nat → Nat → Nat) (q : Nat → Nat) (cI cZ cG : ClassId) (a : Nat → Nat → Int32) (f : Nat → Int32) (w : Nat → Nat → Int32) (sz : Nat) (n ms : Nat) (hn : n ≤ 16) (hf1 : f 1 = nI n) (hm : ms ≤ 5) (hf4 : f 4 = nI ms)  : vx_Met l yX_count wX_count ({ frames := 7, cells := 1, slots := 6, locals := 122 }) (va_Pc [.ref (q 0)] (fun U => U.heap.size = sz ∧ va_P (dC, dI) cls2 (xw q cI cZ cG a f w) U.heap ∧ va_K (dC, dI) cls2 (xt cI cZ cG) U ∧ va_D (fun _ => True) (xw q cI cZ cG a f w) ∧ xE l (va_A (xw q cI cZ cG a f w) sz) U U.heap)) (va_Qi (fun (r0 : Int32) (u : XS) => 1 ≤ ms ∧ r0 = (xCntL a f n ms (0) (n + 1) 0 0 w).1 ∧ u = (a, f, (xCntL a f n ms (0) (n + 1) 0 0 w).2)) (atX dC dI q cI cZ cG (va_A (xw q cI cZ cG a f w) sz)) (va_A (xw q cI cZ cG a f w) sz)) (vx_X (fun u : XS => u = (a, f, w)) (fun E u t => (E = "java/lang/IllegalStateException" ∧ ms = 0) ∧ atX dC dI q cI cZ cG (va_A (xw q cI cZ cG a f w) sz) u t) (va_A (xw q cI cZ cG a f w) sz)) 1 6 (va_A (xw q cI cZ cG a f w) sz) := by
  refine vx_ofW (cc := cX_count) (maxL := 1) (ret := (some .int)) (by decide) rfl ?_
  intro p e s m args below meth c s₁ B hml hno hv
  obtain ⟨rfl, hsz, hP, hK, hD0, hE⟩ := hv
  have hx := B.exec
  have hb := B.bytes
  have hr := B.returns
  have hbw : ∀ w ∈ bw, w.before _ s = true := fun w h => atoms_spec (ws := wX_count) B.pre w (List.mem_cons_of_mem _ h)
  have hown : s.vm.findClass "EventPatterns" = some m.cls := findClass_of_methodNamed B.named
  have hlocks := B.notSynchronized
  subst hsz
  have hD := hD0.self (sz := s.heap.size)
  generalize hAe : va_A (xw q cI cZ cG a f w) s.heap.size = A at hD hE ⊢
  have hA : ∀ q : Nat, s.heap.size ≤ q → A q := fun q h => by rw [← hAe]; exact Or.inr h
  have hS : va_S A s.heap s.heap [] := va_S.rf
  have hl := lv_entry ([.ref (q 0)]) (n := 1) (Nat.le_of_ble_eq_true rfl)
  rw [lg_entry_eq]
  generalize (lg_sl ([.ref (q 0)]) ++ List.replicate (1 - (lg_sl ([.ref (q 0)])).length) Slot.unset).toArray = ls at hl ⊢
  have hl : lv_has ls 1 [(0, .ref (q 0))] := hl
  refine lv_aload_n hx hb dX_count_0 rfl (lv_at hl 0 rfl) ?_
  have hFc := va_free (wc := xw q cI cZ cG (a) (f) (w)) hD hS hA (List.range 27) rfl
  refine vx_callv (vx_runV (As := []) (rest := []) ⟨hx, hb, hml, hown, hbw⟩ (tX_needSteps l dC dI q cI cZ cG a f w s.heap.size ms hm hf4) (cwV 0 hbw (bw_V km_X_94 ki_yX_needSteps ksel_yX_needSteps ki_EventPatterns kcX_needSteps) rfl rfl rfl (by decide +kernel) ⟨Nat.le_of_ble_eq_true rfl, Nat.le_of_ble_eq_true rfl⟩) ⟨fun a U g mk q => by obtain ⟨q0, q1, qP, qK, qD, qE⟩ := q; exact ⟨q0, q1, qP, va_K.moved (u := U) (U := U.calling g mk a) (Vm.Alike.refl U.vm) qK, qD, xE.same (s := U) rfl qE⟩, va_recv hK hP (ci := 0) (q0 := 0) rfl rfl, fun U hU hW => ⟨rfl, by rw [hU], by rw [hU]; exact hP, va_K.moved hW.alike hK, hD.weaken (fun _ _ _ _ => trivial), by rw [hU]; exact ((hE.kept hS.2.1).narrow hFc).warm hW⟩⟩ rfl rfl hl.1 rfl (lv_room (Nat.le_of_ble_eq_true rfl)) dX_count_1 ⟨Nat.le_of_ble_eq_true rfl, Nat.le_of_ble_eq_true rfl⟩) hS (fun q _ h => hFc q h) hFc (fun q _ h => hFc q h) (fun E ce q9 u t H1 locs ht hal hpx hBX hz1 hk1 hS hce hcv hcl => ?_) (fun u t H1 locs ht hvm hq hB hz1 hk1 hS => ?_)
  · obtain ⟨herr, hP1, hK1, hD1⟩ := hBX
    subst hpx
    rw [ht] at hP1
    exact vx_out (fun x hx => (hno x hx).elim) hlocks hce hcv hcl (fun t2 ht2 hal2 => ⟨(a, f, w), rfl, ⟨⟨herr.1, herr.2⟩, by rw [ht2]; exact hP1, va_K.moved hal2 hK, hD1.weaken (fun _ _ _ h => hFc _ h)⟩, hS.F ht2⟩) hS.2.2 (Nat.le_of_ble_eq_true rfl) (Nat.le_of_ble_eq_true rfl)
  obtain ⟨h0, hq⟩ := hq
  obtain rfl := hq
  obtain ⟨hP1, hK1, hD1⟩ := hB
  rw [ht] at hP1
  have hP : va_P (dC, dI) cls2 (xw q cI cZ cG (a) (f) (w)) H1 := hP1
  have hD : va_D A (xw q cI cZ cG (a) (f) (w)) := hD1.weaken (fun _ _ _ h => hFc _ h)
  generalize H1 = H at hP hS ⊢
  refine lv_aload_n hx hb dX_count_4 rfl (lv_at hl 0 rfl) ?_
  refine lv_iconst (v := 0) hx hb dX_count_5 (by decide) ?_
  have hFc := va_free (wc := xw q cI cZ cG (a) (f) (w)) hD hS hA (List.range 27) rfl
  refine va_calli (va_runV (As := [.int (0)]) (rest := []) ⟨hx, hb, hml, hown, hbw⟩ (tX_countEnding l dC dI q cI cZ cG a f w H.size n ms (0) hn hf1 h0 hm hf4) (cwV 1 hbw (bw_V km_X_97 ki_yX_countEnding ksel_yX_countEnding ki_EventPatterns kcX_countEnding) rfl rfl rfl (by decide +kernel) ⟨Nat.le_of_ble_eq_true rfl, Nat.le_of_ble_eq_true rfl⟩) ⟨fun a U g mk q => by obtain ⟨q0, q1, qP, qK, qD⟩ := q; exact ⟨q0, q1, qP, va_K.moved (u := U) (U := U.calling g mk a) (Vm.Alike.refl U.vm) qK, qD⟩, va_recv hK hP (ci := 0) (q0 := 0) rfl rfl, fun U hU hW => ⟨rfl, by rw [hU], by rw [hU]; exact hP, va_K.moved hW.alike hK, hD.weaken (fun _ _ _ _ => trivial)⟩⟩ rfl rfl hl.1 rfl (lv_room (Nat.le_of_ble_eq_true rfl)) dX_count_6 ⟨Nat.le_of_ble_eq_true rfl, Nat.le_of_ble_eq_true rfl⟩) hS (fun q _ h => hFc q h) hFc (fun r_6 u t H1 locs ht hvm hq hB hz1 hk1 hS => ?_)
  obtain ⟨rfl, rfl⟩ := hq
  obtain ⟨hP1, hK1, hD1⟩ := hB
  rw [ht] at hP1
  have hP : va_P (dC, dI) cls2 (xw q cI cZ cG (a) (f) ((xCntL a f n ms (0) (n + 1) 0 0 w).2)) H1 := hP1
  have hD : va_D A (xw q cI cZ cG (a) (f) ((xCntL a f n ms (0) (n + 1) 0 0 w).2)) := hD1.weaken (fun _ _ _ h => hFc _ h)
  generalize H1 = H at hP hS ⊢
  refine vx_ret ?_
  refine W.widen (k := 1) (n := 6) (by omega) (by omega) ?_
  exact W.iret (v := (xCntL a f n ms (0) (n + 1) 0 0 w).1) hx hb hr (fun t ht hW => ⟨⟨(xCntL a f n ms (0) (n + 1) 0 0 w).1, (a, f, (xCntL a f n ms (0) (n + 1) 0 0 w).2), rfl, ⟨h0, rfl, rfl⟩, by rw [ht]; exact hP, va_K.moved hW.alike hK, hD⟩, hS.F ht⟩) hS.2.2 dX_count_9
set_option maxHeartbeats 4000000 in
set_option maxRecDepth 100000 in
/-- latest() -/
theorem tX_latest (l : Launch) (dC : Nat → ClassId) (dI : Nat → Nat → Nat) (q : Nat → Nat) (cI cZ cG : ClassId) (a : Nat → Nat → Int32) (f : Nat → Int32) (w : Nat → Nat → Int32) (sz : Nat) (n ms : Nat) (hn : n ≤ 16) (hf1 : f 1 = nI n) (hm : ms ≤ 5) (hf4 : f 4 = nI ms)  : vx_Met l yX_latest wX_latest ({ frames := 7, cells := 1, slots := 6, locals := 122 }) (va_Pc [.ref (q 0)] (fun U => U.heap.size = sz ∧ va_P (dC, dI) cls2 (xw q cI cZ cG a f w) U.heap ∧ va_K (dC, dI) cls2 (xt cI cZ cG) U ∧ va_D (fun _ => True) (xw q cI cZ cG a f w) ∧ xE l (va_A (xw q cI cZ cG a f w) sz) U U.heap)) (va_Qi (fun (r0 : Int32) (u : XS) => 1 ≤ ms ∧ r0 = (xCntL a f n ms (nI n - 1) (n + 1) 0 0 w).1 ∧ u = (a, f, (xCntL a f n ms (nI n - 1) (n + 1) 0 0 w).2)) (atX dC dI q cI cZ cG (va_A (xw q cI cZ cG a f w) sz)) (va_A (xw q cI cZ cG a f w) sz)) (vx_X (fun u : XS => u = (a, f, w)) (fun E u t => (E = "java/lang/IllegalStateException" ∧ ms = 0) ∧ atX dC dI q cI cZ cG (va_A (xw q cI cZ cG a f w) sz) u t) (va_A (xw q cI cZ cG a f w) sz)) 1 6 (va_A (xw q cI cZ cG a f w) sz) := by
  refine vx_ofW (cc := cX_latest) (maxL := 1) (ret := (some .int)) (by decide) rfl ?_
  intro p e s m args below meth c s₁ B hml hno hv
  obtain ⟨rfl, hsz, hP, hK, hD0, hE⟩ := hv
  have hx := B.exec
  have hb := B.bytes
  have hr := B.returns
  have hbw : ∀ w ∈ bw, w.before _ s = true := fun w h => atoms_spec (ws := wX_latest) B.pre w (List.mem_cons_of_mem _ h)
  have hown : s.vm.findClass "EventPatterns" = some m.cls := findClass_of_methodNamed B.named
  have hlocks := B.notSynchronized
  subst hsz
  have hD := hD0.self (sz := s.heap.size)
  generalize hAe : va_A (xw q cI cZ cG a f w) s.heap.size = A at hD hE ⊢
  have hA : ∀ q : Nat, s.heap.size ≤ q → A q := fun q h => by rw [← hAe]; exact Or.inr h
  have hS : va_S A s.heap s.heap [] := va_S.rf
  have hl := lv_entry ([.ref (q 0)]) (n := 1) (Nat.le_of_ble_eq_true rfl)
  rw [lg_entry_eq]
  generalize (lg_sl ([.ref (q 0)]) ++ List.replicate (1 - (lg_sl ([.ref (q 0)])).length) Slot.unset).toArray = ls at hl ⊢
  have hl : lv_has ls 1 [(0, .ref (q 0))] := hl
  refine lv_aload_n hx hb dX_latest_0 rfl (lv_at hl 0 rfl) ?_
  have hFc := va_free (wc := xw q cI cZ cG (a) (f) (w)) hD hS hA (List.range 27) rfl
  refine vx_callv (vx_runV (As := []) (rest := []) ⟨hx, hb, hml, hown, hbw⟩ (tX_needSteps l dC dI q cI cZ cG a f w s.heap.size ms hm hf4) (cwV 0 hbw (bw_V km_X_94 ki_yX_needSteps ksel_yX_needSteps ki_EventPatterns kcX_needSteps) rfl rfl rfl (by decide +kernel) ⟨Nat.le_of_ble_eq_true rfl, Nat.le_of_ble_eq_true rfl⟩) ⟨fun a U g mk q => by obtain ⟨q0, q1, qP, qK, qD, qE⟩ := q; exact ⟨q0, q1, qP, va_K.moved (u := U) (U := U.calling g mk a) (Vm.Alike.refl U.vm) qK, qD, xE.same (s := U) rfl qE⟩, va_recv hK hP (ci := 0) (q0 := 0) rfl rfl, fun U hU hW => ⟨rfl, by rw [hU], by rw [hU]; exact hP, va_K.moved hW.alike hK, hD.weaken (fun _ _ _ _ => trivial), by rw [hU]; exact ((hE.kept hS.2.1).narrow hFc).warm hW⟩⟩ rfl rfl hl.1 rfl (lv_room (Nat.le_of_ble_eq_true rfl)) dX_latest_1 ⟨Nat.le_of_ble_eq_true rfl, Nat.le_of_ble_eq_true rfl⟩) hS (fun q _ h => hFc q h) hFc (fun q _ h => hFc q h) (fun E ce q9 u t H1 locs ht hal hpx hBX hz1 hk1 hS hce hcv hcl => ?_) (fun u t H1 locs ht hvm hq hB hz1 hk1 hS => ?_)
  · obtain ⟨herr, hP1, hK1, hD1⟩ := hBX
    subst hpx
    rw [ht] at hP1
    exact vx_out (fun x hx => (hno x hx).elim) hlocks hce hcv hcl (fun t2 ht2 hal2 => ⟨(a, f, w), rfl, ⟨⟨herr.1, herr.2⟩, by rw [ht2]; exact hP1, va_K.moved hal2 hK, hD1.weaken (fun _ _ _ h => hFc _ h)⟩, hS.F ht2⟩) hS.2.2 (Nat.le_of_ble_eq_true rfl) (Nat.le_of_ble_eq_true rfl)
  obtain ⟨h0, hq⟩ := hq
  obtain rfl := hq
  obtain ⟨hP1, hK1, hD1⟩ := hB
  rw [ht] at hP1
  have hP : va_P (dC, dI) cls2 (xw q cI cZ cG (a) (f) (w)) H1 := hP1
  have hD : va_D A (xw q cI cZ cG (a) (f) (w)) := hD1.weaken (fun _ _ _ h => hFc _ h)
  generalize H1 = H at hP hS ⊢
  refine lv_aload_n hx hb dX_latest_4 rfl (lv_at hl 0 rfl) ?_
  refine lv_aload_n hx hb dX_latest_5 rfl (lv_at hl 0 rfl) ?_
  refine va_get (D := (dC, dI)) (ci := 0) (v := .int (nI (n))) (C := "EventPatterns") (T := TX) (N := 16) hx hb hbw inX hown hK hP 0 rfl rfl 4 (by decide) (hbw _ kf_X_47) (fun _ h9 => h9) (congrArg (fun z => some (Value.int z)) (hf1)) dX_latest_6 ?_
  refine lv_iconst (v := 1) hx hb dX_latest_9 (by decide) ?_
  refine lv_isub hx hb dX_latest_10 ?_
  have hFc := va_free (wc := xw q cI cZ cG (a) (f) (w)) hD hS hA (List.range 27) rfl
  refine va_calli (va_runV (As := [.int (nI n - 1)]) (rest := []) ⟨hx, hb, hml, hown, hbw⟩ (tX_countEnding l dC dI q cI cZ cG a f w H.size n ms (nI n - 1) hn hf1 h0 hm hf4) (cwV 1 hbw (bw_V km_X_97 ki_yX_countEnding ksel_yX_countEnding ki_EventPatterns kcX_countEnding) rfl rfl rfl (by decide +kernel) ⟨Nat.le_of_ble_eq_true rfl, Nat.le_of_ble_eq_true rfl⟩) ⟨fun a U g mk q => by obtain ⟨q0, q1, qP, qK, qD⟩ := q; exact ⟨q0, q1, qP, va_K.moved (u := U) (U := U.calling g mk a) (Vm.Alike.refl U.vm) qK, qD⟩, va_recv hK hP (ci := 0) (q0 := 0) rfl rfl, fun U hU hW => ⟨rfl, by rw [hU], by rw [hU]; exact hP, va_K.moved hW.alike hK, hD.weaken (fun _ _ _ _ => trivial)⟩⟩ rfl rfl hl.1 rfl (lv_room (Nat.le_of_ble_eq_true rfl)) dX_latest_11 ⟨Nat.le_of_ble_eq_true rfl, Nat.le_of_ble_eq_true rfl⟩) hS (fun q _ h => hFc q h) hFc (fun r_11 u t H1 locs ht hvm hq hB hz1 hk1 hS => ?_)
  obtain ⟨rfl, rfl⟩ := hq
  obtain ⟨hP1, hK1, hD1⟩ := hB
  rw [ht] at hP1
  have hP : va_P (dC, dI) cls2 (xw q cI cZ cG (a) (f) ((xCntL a f n ms (nI n - 1) (n + 1) 0 0 w).2)) H1 := hP1
  have hD : va_D A (xw q cI cZ cG (a) (f) ((xCntL a f n ms (nI n - 1) (n + 1) 0 0 w).2)) := hD1.weaken (fun _ _ _ h => hFc _ h)
  generalize H1 = H at hP hS ⊢
  refine vx_ret ?_
  refine W.widen (k := 1) (n := 6) (by omega) (by omega) ?_
  exact W.iret (v := (xCntL a f n ms (nI n - 1) (n + 1) 0 0 w).1) hx hb hr (fun t ht hW => ⟨⟨(xCntL a f n ms (nI n - 1) (n + 1) 0 0 w).1, (a, f, (xCntL a f n ms (nI n - 1) (n + 1) 0 0 w).2), rfl, ⟨h0, rfl, rfl⟩, by rw [ht]; exact hP, va_K.moved hW.alike hK, hD⟩, hS.F ht⟩) hS.2.2 dX_latest_14
set_option maxHeartbeats 4000000 in
set_option maxRecDepth 100000 in
/-- length(k) -/
theorem tX_length (l : Launch) (dC : Nat → ClassId) (dI : Nat → Nat → Nat) (q : Nat → Nat) (cI cZ cG : ClassId) (a : Nat → Nat → Int32) (f : Nat → Int32) (w : Nat → Nat → Int32) (sz : Nat) (n ms : Nat) (kk : Int32) (hn : n ≤ 16) (hf1 : f 1 = nI n) (hm : ms ≤ 5) (hf4 : f 4 = nI ms)  : vx_Met l yX_length wX_length ({ frames := 7, cells := 2, slots := 12, locals := 144 }) (va_Pc [.ref (q 0), .int (kk)] (fun U => U.heap.size = sz ∧ va_P (dC, dI) cls2 (xw q cI cZ cG a f w) U.heap ∧ va_K (dC, dI) cls2 (xt cI cZ cG) U ∧ va_D (fun _ => True) (xw q cI cZ cG a f w) ∧ xE l (va_A (xw q cI cZ cG a f w) sz) U U.heap)) (va_Qi (fun (r0 : Int32) (u : XS) => (1 ≤ ms ∧ (xFind a f w n ms kk).1 = true) ∧ r0 = (xFind a f w n ms kk).2.2.1 5 ∧ u = (xFind a f w n ms kk).2) (atX dC dI q cI cZ cG (va_A (xw q cI cZ cG a f w) sz)) (va_A (xw q cI cZ cG a f w) sz)) (vx_X (fun u : XS => u = (if ms = 0 then (a, f, w) else (xFind a f w n ms kk).2)) (fun E u t => (E = "java/lang/IllegalStateException" ∧ ms = 0 ∨ E = "java/lang/IndexOutOfBoundsException" ∧ 1 ≤ ms ∧ (xFind a f w n ms kk).1 = false) ∧ atX dC dI q cI cZ cG (va_A (xw q cI cZ cG a f w) sz) u t) (va_A (xw q cI cZ cG a f w) sz)) 2 12 (va_A (xw q cI cZ cG a f w) sz) := by
  refine vx_ofW (cc := cX_length) (maxL := 2) (ret := (some .int)) (by decide) rfl ?_
  intro p e s m args below meth c s₁ B hml hno hv
  obtain ⟨rfl, hsz, hP, hK, hD0, hE⟩ := hv
  have hx := B.exec
  have hb := B.bytes
  have hr := B.returns
  have hbw : ∀ w ∈ bw, w.before _ s = true := fun w h => atoms_spec (ws := wX_length) B.pre w (List.mem_cons_of_mem _ h)
  have hown : s.vm.findClass "EventPatterns" = some m.cls := findClass_of_methodNamed B.named
  have hlocks := B.notSynchronized
  subst hsz
  have hD := hD0.self (sz := s.heap.size)
  generalize hAe : va_A (xw q cI cZ cG a f w) s.heap.size = A at hD hE ⊢
  have hA : ∀ q : Nat, s.heap.size ≤ q → A q := fun q h => by rw [← hAe]; exact Or.inr h
  have hS : va_S A s.heap s.heap [] := va_S.rf
  have hl := lv_entry ([.ref (q 0), .int (kk)]) (n := 2) (Nat.le_of_ble_eq_true rfl)
  rw [lg_entry_eq]
  generalize (lg_sl ([.ref (q 0), .int (kk)]) ++ List.replicate (2 - (lg_sl ([.ref (q 0), .int (kk)])).length) Slot.unset).toArray = ls at hl ⊢
  have hl : lv_has ls 2 [(0, .ref (q 0)), (1, .int (kk))] := hl
  refine lv_aload_n hx hb dX_length_0 rfl (lv_at hl 0 rfl) ?_
  have hFc := va_free (wc := xw q cI cZ cG (a) (f) (w)) hD hS hA (List.range 27) rfl
  refine vx_callv (vx_runV (As := []) (rest := []) ⟨hx, hb, hml, hown, hbw⟩ (tX_needSteps l dC dI q cI cZ cG a f w s.heap.size ms hm hf4) (cwV 0 hbw (bw_V km_X_94 ki_yX_needSteps ksel_yX_needSteps ki_EventPatterns kcX_needSteps) rfl rfl rfl (by decide +kernel) ⟨Nat.le_of_ble_eq_true rfl, Nat.le_of_ble_eq_true rfl⟩) ⟨fun a U g mk q => by obtain ⟨q0, q1, qP, qK, qD, qE⟩ := q; exact ⟨q0, q1, qP, va_K.moved (u := U) (U := U.calling g mk a) (Vm.Alike.refl U.vm) qK, qD, xE.same (s := U) rfl qE⟩, va_recv hK hP (ci := 0) (q0 := 0) rfl rfl, fun U hU hW => ⟨rfl, by rw [hU], by rw [hU]; exact hP, va_K.moved hW.alike hK, hD.weaken (fun _ _ _ _ => trivial), by rw [hU]; exact ((hE.kept hS.2.1).narrow hFc).warm hW⟩⟩ rfl rfl hl.1 rfl (lv_room (Nat.le_of_ble_eq_true rfl)) dX_length_1 ⟨Nat.le_of_ble_eq_true rfl, Nat.le_of_ble_eq_true rfl⟩) hS (fun q _ h => hFc q h) hFc (fun q _ h => hFc q h) (fun E ce q9 u t H1 locs ht hal hpx hBX hz1 hk1 hS hce hcv hcl => ?_) (fun u t H1 locs ht hvm hq hB hz1 hk1 hS => ?_)
  · obtain ⟨herr, hP1, hK1, hD1⟩ := hBX
    subst hpx
    rw [ht] at hP1
    exact vx_out (fun x hx => (hno x hx).elim) hlocks hce hcv hcl (fun t2 ht2 hal2 => ⟨(a, f, w), (by rw [if_pos herr.2]), ⟨Or.inl herr, by rw [ht2]; exact hP1, va_K.moved hal2 hK, hD1.weaken (fun _ _ _ h => hFc _ h)⟩, hS.F ht2⟩) hS.2.2 (Nat.le_of_ble_eq_true rfl) (Nat.le_of_ble_eq_true rfl)
  obtain ⟨h0, hq⟩ := hq
  obtain rfl := hq
  obtain ⟨hP1, hK1, hD1⟩ := hB
  rw [ht] at hP1
  have hP : va_P (dC, dI) cls2 (xw q cI cZ cG (a) (f) (w)) H1 := hP1
  have hD : va_D A (xw q cI cZ cG (a) (f) (w)) := hD1.weaken (fun _ _ _ h => hFc _ h)
  generalize H1 = H at hP hS ⊢
  refine lv_aload_n hx hb dX_length_4 rfl (lv_at hl 0 rfl) ?_
  refine lv_iload_n hx hb dX_length_5 rfl (lv_at hl 1 rfl) ?_
  have hFc := va_free (wc := xw q cI cZ cG (a) (f) (w)) hD hS hA (List.range 27) rfl
  refine vx_callv (vx_runV (As := [.int (kk)]) (rest := []) ⟨hx, hb, hml, hown, hbw⟩ (tX_needMatch l dC dI q cI cZ cG a f w H.size n ms kk hn hf1 h0 hm hf4) (cwV 1 hbw (bw_V km_X_101 ki_yX_needMatch ksel_yX_needMatch ki_EventPatterns kcX_needMatch) rfl rfl rfl (by decide +kernel) ⟨Nat.le_of_ble_eq_true rfl, Nat.le_of_ble_eq_true rfl⟩) ⟨fun a U g mk q => by obtain ⟨q0, q1, qP, qK, qD, qE⟩ := q; exact ⟨q0, q1, qP, va_K.moved (u := U) (U := U.calling g mk a) (Vm.Alike.refl U.vm) qK, qD, xE.same (s := U) rfl qE⟩, va_recv hK hP (ci := 0) (q0 := 0) rfl rfl, fun U hU hW => ⟨rfl, by rw [hU], by rw [hU]; exact hP, va_K.moved hW.alike hK, hD.weaken (fun _ _ _ _ => trivial), by rw [hU]; exact ((hE.kept hS.2.1).narrow hFc).warm hW⟩⟩ rfl rfl hl.1 rfl (lv_room (Nat.le_of_ble_eq_true rfl)) dX_length_6 ⟨Nat.le_of_ble_eq_true rfl, Nat.le_of_ble_eq_true rfl⟩) hS (fun q _ h => hFc q h) hFc (fun q _ h => hFc q h) (fun E ce q9 u t H1 locs ht hal hpx hBX hz1 hk1 hS hce hcv hcl => ?_) (fun u t H1 locs ht hvm hq hB hz1 hk1 hS => ?_)
  · obtain ⟨herr, hP1, hK1, hD1⟩ := hBX
    subst hpx
    rw [ht] at hP1
    exact vx_out (fun x hx => (hno x hx).elim) hlocks hce hcv hcl (fun t2 ht2 hal2 => ⟨(xFind a f w n ms kk).2, (by rw [if_neg (by omega)]), ⟨Or.inr ⟨herr.1, h0, herr.2⟩, by rw [ht2]; exact hP1, va_K.moved hal2 hK, hD1.weaken (fun _ _ _ h => hFc _ h)⟩, hS.F ht2⟩) hS.2.2 (Nat.le_of_ble_eq_true rfl) (Nat.le_of_ble_eq_true rfl)
  obtain ⟨hfound, hq⟩ := hq
  obtain rfl := hq
  obtain ⟨hP1, hK1, hD1⟩ := hB
  rw [ht] at hP1
  have hP : va_P (dC, dI) cls2 (xw q cI cZ cG ((xFind a f w n ms kk).2.1) ((xFind a f w n ms kk).2.2.1) ((xFind a f w n ms kk).2.2.2)) H1 := hP1
  have hD : va_D A (xw q cI cZ cG ((xFind a f w n ms kk).2.1) ((xFind a f w n ms kk).2.2.1) ((xFind a f w n ms kk).2.2.2)) := hD1.weaken (fun _ _ _ h => hFc _ h)
  generalize H1 = H at hP hS ⊢
  obtain ⟨fr1, fr2, fr3⟩ := xFind_frame a f w n ms kk hn
  obtain ⟨L, hL, hf5⟩ := fr3 hfound
  refine lv_aload_n hx hb dX_length_9 rfl (lv_at hl 0 rfl) ?_
  refine va_get (D := (dC, dI)) (ci := 0) (v := .int (nI (L))) (C := "EventPatterns") (T := TX) (N := 16) hx hb hbw inX hown hK hP 0 rfl rfl 15 (by decide) (hbw _ kf_X_59) (fun _ h9 => h9) (congrArg (fun z => some (Value.int z)) (hf5)) dX_length_10 ?_
  refine vx_ret ?_
  refine W.widen (k := 2) (n := 12) (by omega) (by omega) ?_
  exact W.iret (v := nI (L)) hx hb hr (fun t ht hW => ⟨⟨nI (L), (xFind a f w n ms kk).2, rfl, ⟨⟨h0, hfound⟩, hf5.symm, rfl⟩, by rw [ht]; exact hP, va_K.moved hW.alike hK, hD⟩, hS.F ht⟩) hS.2.2 dX_length_13
set_option maxHeartbeats 4000000 in
set_option maxRecDepth 100000 in
/-- match(k, i, what) -/
theorem tX_match (l : Launch) (dC : Nat → ClassId) (dI : Nat → Nat → Nat) (q : Nat → Nat) (cI cZ cG : ClassId) (a : Nat → Nat → Int32) (f : Nat → Int32) (w : Nat → Nat → Int32) (sz : Nat) (n cm ms : Nat) (kk ix wh : Int32) (hn : n ≤ 16) (hf1 : f 1 = nI n) (hcm : n ≤ cm) (hc4 : cm ≤ 400) (hf0 : f 0 = nI cm) (hm : ms ≤ 5) (hf4 : f 4 = nI ms)  : vx_Met l yX_match wX_match ({ frames := 7, cells := 3, slots := 18, locals := 144 }) (va_Pc [.ref (q 0), .int (kk), .int (ix), .int (wh)] (fun U => U.heap.size = sz ∧ va_P (dC, dI) cls2 (xw q cI cZ cG a f w) U.heap ∧ va_K (dC, dI) cls2 (xt cI cZ cG) U ∧ va_D (fun _ => True) (xw q cI cZ cG a f w) ∧ xE l (va_A (xw q cI cZ cG a f w) sz) U U.heap)) (va_Qi (fun (r0 : Int32) (u : XS) => (1 ≤ ms ∧ (xFind a f w n ms kk).1 = true ∧ ¬ (ix < 0 ∨ (xFind a f w n ms kk).2.2.1 5 ≤ ix)) ∧ ((wh = 0 ∨ ¬ wh = 0 ∧ wh = 1) ∧ r0 = if wh = 0 then nI (cm - n) + (xFind a f w n ms kk).2.1 7 ix.toNatClampNeg else (xFind a f w n ms kk).2.1 8 ix.toNatClampNeg) ∧ u = (xFind a f w n ms kk).2) (atX dC dI q cI cZ cG (va_A (xw q cI cZ cG a f w) sz)) (va_A (xw q cI cZ cG a f w) sz)) (vx_X (fun u : XS => u = (if ms = 0 then (a, f, w) else (xFind a f w n ms kk).2)) (fun E u t => (E = "java/lang/IllegalStateException" ∧ ms = 0 ∨ E = "java/lang/IndexOutOfBoundsException" ∧ 1 ≤ ms ∧ ((xFind a f w n ms kk).1 = false ∨ (xFind a f w n ms kk).1 = true ∧ (ix < 0 ∨ (xFind a f w n ms kk).2.2.1 5 ≤ ix)) ∨ E = "java/lang/IllegalArgumentException" ∧ 1 ≤ ms ∧ (xFind a f w n ms kk).1 = true ∧ ¬ (ix < 0 ∨ (xFind a f w n ms kk).2.2.1 5 ≤ ix) ∧ ¬ wh = 0 ∧ ¬ wh = 1) ∧ atX dC dI q cI cZ cG (va_A (xw q cI cZ cG a f w) sz) u t) (va_A (xw q cI cZ cG a f w) sz)) 3 18 (va_A (xw q cI cZ cG a f w) sz) := by
  refine vx_ofW (cc := cX_match) (maxL := 4) (ret := (some .int)) (by decide) rfl ?_
  intro p e s m args below meth c s₁ B hml hno hv
  obtain ⟨rfl, hsz, hP, hK, hD0, hE⟩ := hv
  have hx := B.exec
  have hb := B.bytes
  have hr := B.returns
  have hbw : ∀ w ∈ bw, w.before _ s = true := fun w h => atoms_spec (ws := wX_match) B.pre w (List.mem_cons_of_mem _ h)
  have hown : s.vm.findClass "EventPatterns" = some m.cls := findClass_of_methodNamed B.named
  have hlocks := B.notSynchronized
  subst hsz
  have hD := hD0.self (sz := s.heap.size)
  generalize hAe : va_A (xw q cI cZ cG a f w) s.heap.size = A at hD hE ⊢
  have hA : ∀ q : Nat, s.heap.size ≤ q → A q := fun q h => by rw [← hAe]; exact Or.inr h
  have hS : va_S A s.heap s.heap [] := va_S.rf
  have hl := lv_entry ([.ref (q 0), .int (kk), .int (ix), .int (wh)]) (n := 4) (Nat.le_of_ble_eq_true rfl)
  rw [lg_entry_eq]
  generalize (lg_sl ([.ref (q 0), .int (kk), .int (ix), .int (wh)]) ++ List.replicate (4 - (lg_sl ([.ref (q 0), .int (kk), .int (ix), .int (wh)])).length) Slot.unset).toArray = ls at hl ⊢
  have hl : lv_has ls 4 [(0, .ref (q 0)), (1, .int (kk)), (2, .int (ix)), (3, .int (wh))] := hl
  refine lv_aload_n hx hb dX_match_0 rfl (lv_at hl 0 rfl) ?_
  have hFc := va_free (wc := xw q cI cZ cG (a) (f) (w)) hD hS hA (List.range 27) rfl
  refine vx_callv (vx_runV (As := []) (rest := []) ⟨hx, hb, hml, hown, hbw⟩ (tX_needSteps l dC dI q cI cZ cG a f w s.heap.size ms hm hf4) (cwV 0 hbw (bw_V km_X_94 ki_yX_needSteps ksel_yX_needSteps ki_EventPatterns kcX_needSteps) rfl rfl rfl (by decide +kernel) ⟨Nat.le_of_ble_eq_true rfl, Nat.le_of_ble_eq_true rfl⟩) ⟨fun a U g mk q => by obtain ⟨q0, q1, qP, qK, qD, qE⟩ := q; exact ⟨q0, q1, qP, va_K.moved (u := U) (U := U.calling g mk a) (Vm.Alike.refl U.vm) qK, qD, xE.same (s := U) rfl qE⟩, va_recv hK hP (ci := 0) (q0 := 0) rfl rfl, fun U hU hW => ⟨rfl, by rw [hU], by rw [hU]; exact hP, va_K.moved hW.alike hK, hD.weaken (fun _ _ _ _ => trivial), by rw [hU]; exact ((hE.kept hS.2.1).narrow hFc).warm hW⟩⟩ rfl rfl hl.1 rfl (lv_room (Nat.le_of_ble_eq_true rfl)) dX_match_1 ⟨Nat.le_of_ble_eq_true rfl, Nat.le_of_ble_eq_true rfl⟩) hS (fun q _ h => hFc q h) hFc (fun q _ h => hFc q h) (fun E ce q9 u t H1 locs ht hal hpx hBX hz1 hk1 hS hce hcv hcl => ?_) (fun u t H1 locs ht hvm hq hB hz1 hk1 hS => ?_)
  · obtain ⟨herr, hP1, hK1, hD1⟩ := hBX
    subst hpx
    rw [ht] at hP1
    exact vx_out (fun x hx => (hno x hx).elim) hlocks hce hcv hcl (fun t2 ht2 hal2 => ⟨(a, f, w), (by rw [if_pos herr.2]), ⟨Or.inl herr, by rw [ht2]; exact hP1, va_K.moved hal2 hK, hD1.weaken (fun _ _ _ h => hFc _ h)⟩, hS.F ht2⟩) hS.2.2 (Nat.le_of_ble_eq_true rfl) (Nat.le_of_ble_eq_true rfl)
  obtain ⟨h0, hq⟩ := hq
  obtain rfl := hq
  obtain ⟨hP1, hK1, hD1⟩ := hB
  rw [ht] at hP1
  have hP : va_P (dC, dI) cls2 (xw q cI cZ cG (a) (f) (w)) H1 := hP1
  have hD : va_D A (xw q cI cZ cG (a) (f) (w)) := hD1.weaken (fun _ _ _ h => hFc _ h)
  generalize H1 = H at hP hS ⊢
  refine lv_aload_n hx hb dX_match_4 rfl (lv_at hl 0 rfl) ?_
  refine lv_iload_n hx hb dX_match_5 rfl (lv_at hl 1 rfl) ?_
  have hFc := va_free (wc := xw q cI cZ cG (a) (f) (w)) hD hS hA (List.range 27) rfl
  refine vx_callv (vx_runV (As := [.int (kk)]) (rest := []) ⟨hx, hb, hml, hown, hbw⟩ (tX_needMatch l dC dI q cI cZ cG a f w H.size n ms kk hn hf1 h0 hm hf4) (cwV 1 hbw (bw_V km_X_101 ki_yX_needMatch ksel_yX_needMatch ki_EventPatterns kcX_needMatch) rfl rfl rfl (by decide +kernel) ⟨Nat.le_of_ble_eq_true rfl, Nat.le_of_ble_eq_true rfl⟩) ⟨fun a U g mk q => by obtain ⟨q0, q1, qP, qK, qD, qE⟩ := q; exact ⟨q0, q1, qP, va_K.moved (u := U) (U := U.calling g mk a) (Vm.Alike.refl U.vm) qK, qD, xE.same (s := U) rfl qE⟩, va_recv hK hP (ci := 0) (q0 := 0) rfl rfl, fun U hU hW => ⟨rfl, by rw [hU], by rw [hU]; exact hP, va_K.moved hW.alike hK, hD.weaken (fun _ _ _ _ => trivial), by rw [hU]; exact ((hE.kept hS.2.1).narrow hFc).warm hW⟩⟩ rfl rfl hl.1 rfl (lv_room (Nat.le_of_ble_eq_true rfl)) dX_match_6 ⟨Nat.le_of_ble_eq_true rfl, Nat.le_of_ble_eq_true rfl⟩) hS (fun q _ h => hFc q h) hFc (fun q _ h => hFc q h) (fun E ce q9 u t H1 locs ht hal hpx hBX hz1 hk1 hS hce hcv hcl => ?_) (fun u t H1 locs ht hvm hq hB hz1 hk1 hS => ?_)
  · obtain ⟨herr, hP1, hK1, hD1⟩ := hBX
    subst hpx
    rw [ht] at hP1
    exact vx_out (fun x hx => (hno x hx).elim) hlocks hce hcv hcl (fun t2 ht2 hal2 => ⟨(xFind a f w n ms kk).2, (by rw [if_neg (by omega)]), ⟨Or.inr (Or.inl ⟨herr.1, h0, Or.inl herr.2⟩), by rw [ht2]; exact hP1, va_K.moved hal2 hK, hD1.weaken (fun _ _ _ h => hFc _ h)⟩, hS.F ht2⟩) hS.2.2 (Nat.le_of_ble_eq_true rfl) (Nat.le_of_ble_eq_true rfl)
  obtain ⟨hfound, hq⟩ := hq
  obtain rfl := hq
  obtain ⟨hP1, hK1, hD1⟩ := hB
  rw [ht] at hP1
  have hP : va_P (dC, dI) cls2 (xw q cI cZ cG ((xFind a f w n ms kk).2.1) ((xFind a f w n ms kk).2.2.1) ((xFind a f w n ms kk).2.2.2)) H1 := hP1
  have hD : va_D A (xw q cI cZ cG ((xFind a f w n ms kk).2.1) ((xFind a f w n ms kk).2.2.1) ((xFind a f w n ms kk).2.2.2)) := hD1.weaken (fun _ _ _ h => hFc _ h)
  generalize H1 = H at hP hS ⊢
  obtain ⟨fr1, fr2, fr3⟩ := xFind_frame a f w n ms kk hn
  obtain ⟨L, hL, hf5⟩ := fr3 hfound
  have hF0 : (xFind a f w n ms kk).2.2.1 0 = nI cm := (fr2 0 (by decide)).trans hf0
  have hF1 : (xFind a f w n ms kk).2.2.1 1 = nI n := (fr2 1 (by decide)).trans hf1
  refine lv_iload_n hx hb dX_match_9 rfl (lv_at hl 2 rfl) ?_
  refine lv_if_lt (tgt := 21) hx hb dX_match_10 (by decide) (fun c_10 => ?_) (fun c_10 => ?_)
  · obtain ⟨sa, hstr⟩ := hE.2.2.2.2 (107, "no such event in the match") (by decide)
    exact vx_throwS (text := "no such event in the match") (names := ["java/lang/RuntimeException", "java/lang/Exception"]) hx hb hE.1 hown (by decide) (by decide) (hbw _ kl_X_105) (hbw _ ki_java_lang_IndexOutOfBoundsException) hstr (xat_IOE hbw hE) xgd_IOE hE.2.1 hE.2.2.1 hS (hl.1.trans hml.symm) dX_match_21 dX_match_24 dX_match_25 dX_match_27 dX_match_30 (fun x hx => (hno x hx).elim) (Nat.le_of_ble_eq_true rfl) (Nat.le_of_ble_eq_true rfl) (Nat.le_of_ble_eq_true rfl) (Nat.le_of_ble_eq_true rfl) hlocks (fun t hal hle hkeep => ⟨(xFind a f w n ms kk).2, (by rw [if_neg (by omega)]), ⟨Or.inr (Or.inl ⟨rfl, h0, Or.inr ⟨hfound, by rw [hf5]; first | exact Or.inl c_10 | exact Or.inr (Int32.not_lt.mp c_18)⟩⟩), hP.kept (fun k q hk => hkeep q.1 ((hP k q hk).lt)), va_K.moved hal hK, hD⟩, ⟨Nat.le_trans hS.1 hle, fun q h1 h2 => (hkeep q (Nat.lt_of_lt_of_le h1 hS.1)).trans (hS.2.1 q h1 h2)⟩⟩) hS.2.2 (Nat.le_of_ble_eq_true rfl) (Nat.le_of_ble_eq_true rfl)
  · refine lv_iload_n hx hb dX_match_13 rfl (lv_at hl 2 rfl) ?_
    refine lv_aload_n hx hb dX_match_14 rfl (lv_at hl 0 rfl) ?_
    refine va_get (D := (dC, dI)) (ci := 0) (v := .int (nI (L))) (C := "EventPatterns") (T := TX) (N := 16) hx hb hbw inX hown hK hP 0 rfl rfl 15 (by decide) (hbw _ kf_X_59) (fun _ h9 => h9) (congrArg (fun z => some (Value.int z)) (hf5)) dX_match_15 ?_
    refine lv_icmp_lt (tgt := 31) hx hb dX_match_18 (by decide) (fun c_18 => ?_) (fun c_18 => ?_)
    · obtain ⟨j, hj, rfl⟩ : ∃ j : Nat, j < L ∧ ix = nI j := by
        rcases pk_ix ix (n := L) (by omega) with h9 | h9 | h9
        · exact absurd h9 c_10
        · exact absurd c_18 (Int32.not_lt.mpr h9)
        · exact h9
      have hnoix : ¬ (nI j < 0 ∨ nI L ≤ nI j) := fun h9 => h9.elim c_10 (fun h8 => absurd c_18 (Int32.not_lt.mpr h8))
      refine lv_iload_n hx hb dX_match_31 rfl (lv_at hl 3 rfl) ?_
      refine lv_if_ne (tgt := 52) hx hb dX_match_32 (by decide) (fun c_32 => ?_) (fun c_32 => ?_)
      · refine lv_iload_n hx hb dX_match_52 rfl (lv_at hl 3 rfl) ?_
        refine lv_iconst (v := 1) hx hb dX_match_53 (by decide) ?_
        refine lv_icmp_ne (tgt := 64) hx hb dX_match_54 (by decide) (fun c_54 => ?_) (fun c_54 => ?_)
        · obtain ⟨sa, hstr⟩ := hE.2.2.2.2 (110, "no such what") (by decide)
          exact vx_throwS (text := "no such what") (names := ["java/lang/RuntimeException", "java/lang/Exception"]) hx hb hE.1 hown (by decide) (by decide) (hbw _ kl_X_67) (hbw _ ki_java_lang_IllegalArgumentException) hstr (xat_IAE hbw hE) xgd_IAE hE.2.1 hE.2.2.1 hS (hl.1.trans hml.symm) dX_match_64 dX_match_67 dX_match_68 dX_match_70 dX_match_73 (fun x hx => (hno x hx).elim) (Nat.le_of_ble_eq_true rfl) (Nat.le_of_ble_eq_true rfl) (Nat.le_of_ble_eq_true rfl) (Nat.le_of_ble_eq_true rfl) hlocks (fun t hal hle hkeep => ⟨(xFind a f w n ms kk).2, (by rw [if_neg (by omega)]), ⟨Or.inr (Or.inr ⟨rfl, h0, hfound, by rw [hf5]; exact hnoix, c_32, c_54⟩), hP.kept (fun k q hk => hkeep q.1 ((hP k q hk).lt)), va_K.moved hal hK, hD⟩, ⟨Nat.le_trans hS.1 hle, fun q h1 h2 => (hkeep q (Nat.lt_of_lt_of_le h1 hS.1)).trans (hS.2.1 q h1 h2)⟩⟩) hS.2.2 (Nat.le_of_ble_eq_true rfl) (Nat.le_of_ble_eq_true rfl)
        · refine lv_aload_n hx hb dX_match_57 rfl (lv_at hl 0 rfl) ?_
          refine va_get (D := (dC, dI)) (ci := 0) (v := .ref (q 10)) (C := "EventPatterns") (T := TX) (N := 16) hx hb hbw inX hown hK hP 0 rfl rfl 14 (by decide) (hbw _ kf_X_40) (fun _ h9 => h9) rfl dX_match_58 ?_
          refine lv_iload_n hx hb dX_match_61 rfl (lv_at hl 2 rfl) ?_
          refine nr_iald hx hb hK hP 10 0 rfl rfl (j := j) (by omega) (by decide) dX_match_62 ?_
          refine vx_ret ?_
          refine W.widen (k := 3) (n := 18) (by omega) (by omega) ?_
          exact W.iret (v := ((xFind a f w n ms kk).2.1 8) (j)) hx hb hr (fun t ht hW => ⟨⟨((xFind a f w n ms kk).2.1 8) (j), (xFind a f w n ms kk).2, rfl, ⟨⟨h0, hfound, by rw [hf5]; exact hnoix⟩, ⟨Or.inr ⟨c_32, c_54⟩, by rw [nI_clamp (by omega)]; first | rw [if_pos c_32] | rw [if_neg c_32]⟩, rfl⟩, by rw [ht]; exact hP, va_K.moved hW.alike hK, hD⟩, hS.F ht⟩) hS.2.2 dX_match_63
      · refine lv_aload_n hx hb dX_match_35 rfl (lv_at hl 0 rfl) ?_
        refine va_get (D := (dC, dI)) (ci := 0) (v := .int (nI (cm))) (C := "EventPatterns") (T := TX) (N := 16) hx hb hbw inX hown hK hP 0 rfl rfl 3 (by decide) (hbw _ kf_X_43) (fun _ h9 => h9) (congrArg (fun z => some (Value.int z)) (hF0)) dX_match_36 ?_
        refine lv_aload_n hx hb dX_match_39 rfl (lv_at hl 0 rfl) ?_
        refine va_get (D := (dC, dI)) (ci := 0) (v := .int (nI (n))) (C := "EventPatterns") (T := TX) (N := 16) hx hb hbw inX hown hK hP 0 rfl rfl 4 (by decide) (hbw _ kf_X_47) (fun _ h9 => h9) (congrArg (fun z => some (Value.int z)) (hF1)) dX_match_40 ?_
        refine nr_isub hx hb (a1 := cm) (b1 := n) (by omega) dX_match_43 ?_
        refine lv_aload_n hx hb dX_match_44 rfl (lv_at hl 0 rfl) ?_
        refine va_get (D := (dC, dI)) (ci := 0) (v := .ref (q 9)) (C := "EventPatterns") (T := TX) (N := 16) hx hb hbw inX hown hK hP 0 rfl rfl 13 (by decide) (hbw _ kf_X_37) (fun _ h9 => h9) rfl dX_match_45 ?_
        refine lv_iload_n hx hb dX_match_48 rfl (lv_at hl 2 rfl) ?_
        refine nr_iald hx hb hK hP 9 0 rfl rfl (j := j) (by omega) (by decide) dX_match_49 ?_
        refine lv_iadd hx hb dX_match_50 ?_
        refine vx_ret ?_
        refine W.widen (k := 3) (n := 18) (by omega) (by omega) ?_
        exact W.iret (v := (nI (cm - n)) + (((xFind a f w n ms kk).2.1 7) (j))) hx hb hr (fun t ht hW => ⟨⟨(nI (cm - n)) + (((xFind a f w n ms kk).2.1 7) (j)), (xFind a f w n ms kk).2, rfl, ⟨⟨h0, hfound, by rw [hf5]; exact hnoix⟩, ⟨Or.inl c_32, by rw [nI_clamp (by omega)]; first | rw [if_pos c_32] | rw [if_neg c_32]⟩, rfl⟩, by rw [ht]; exact hP, va_K.moved hW.alike hK, hD⟩, hS.F ht⟩) hS.2.2 dX_match_51
    · obtain ⟨sa, hstr⟩ := hE.2.2.2.2 (107, "no such event in the match") (by decide)
      exact vx_throwS (text := "no such event in the match") (names := ["java/lang/RuntimeException", "java/lang/Exception"]) hx hb hE.1 hown (by decide) (by decide) (hbw _ kl_X_105) (hbw _ ki_java_lang_IndexOutOfBoundsException) hstr (xat_IOE hbw hE) xgd_IOE hE.2.1 hE.2.2.1 hS (hl.1.trans hml.symm) dX_match_21 dX_match_24 dX_match_25 dX_match_27 dX_match_30 (fun x hx => (hno x hx).elim) (Nat.le_of_ble_eq_true rfl) (Nat.le_of_ble_eq_true rfl) (Nat.le_of_ble_eq_true rfl) (Nat.le_of_ble_eq_true rfl) hlocks (fun t hal hle hkeep => ⟨(xFind a f w n ms kk).2, (by rw [if_neg (by omega)]), ⟨Or.inr (Or.inl ⟨rfl, h0, Or.inr ⟨hfound, by rw [hf5]; first | exact Or.inl c_10 | exact Or.inr (Int32.not_lt.mp c_18)⟩⟩), hP.kept (fun k q hk => hkeep q.1 ((hP k q hk).lt)), va_K.moved hal hK, hD⟩, ⟨Nat.le_trans hS.1 hle, fun q h1 h2 => (hkeep q (Nat.lt_of_lt_of_le h1 hS.1)).trans (hS.2.1 q h1 h2)⟩⟩) hS.2.2 (Nat.le_of_ble_eq_true rfl) (Nat.le_of_ble_eq_true rfl)
end
section
set_option maxHeartbeats 4000000 in
set_option maxRecDepth 100000 in
/-- event(time, kind, value) -/
theorem tX_event (l : Launch) (dC : Nat → ClassId) (dI : Nat → Nat → Nat) (q : Nat → Nat) (cI cZ cG : ClassId) (a : Nat → Nat → Int32) (f : Nat → Int32) (w : Nat → Nat → Int32) (sz : Nat) (n cm : Nat) (tm kd va : Int32) (hn : n ≤ 16) (hf1 : f 1 = nI n) (hcm : cm ≤ 400) (hf0 : f 0 = nI cm) : vx_Met l yX_event wX_event ({ frames := 6, cells := 1, slots := 6, locals := 90 }) (va_Pc [.ref (q 0), .int (tm), .int (kd), .int (va)] (fun U => U.heap.size = sz ∧ va_P (dC, dI) cls2 (xw q cI cZ cG a f w) U.heap ∧ va_K (dC, dI) cls2 (xt cI cZ cG) U ∧ va_D (fun _ => True) (xw q cI cZ cG a f w) ∧ xE l (va_A (xw q cI cZ cG a f w) sz) U U.heap)) (va_Qi (fun (r0 : Int32) (u : XS) => (¬ evBad a n tm kd ∧ cm < 400) ∧ r0 = nI cm ∧ u = xEv a f w n cm tm kd va) (atX dC dI q cI cZ cG (va_A (xw q cI cZ cG a f w) sz)) (va_A (xw q cI cZ cG a f w) sz)) (vx_X (fun u : XS => u = (a, f, w)) (fun E u t => (E = "java/lang/IllegalArgumentException" ∧ evBad a n tm kd ∨ E = "java/lang/UnsupportedOperationException" ∧ ¬ evBad a n tm kd ∧ cm = 400) ∧ atX dC dI q cI cZ cG (va_A (xw q cI cZ cG a f w) sz) u t) (va_A (xw q cI cZ cG a f w) sz)) 1 6 (va_A (xw q cI cZ cG a f w) sz) := by
  refine vx_ofW (cc := cX_event) (maxL := 4) (ret := (some .int)) (by decide) rfl ?_
  intro p e s m args below meth c s₁ B hml hno hv
  obtain ⟨rfl, hsz, hP, hK, hD0, hE⟩ := hv
  have hx := B.exec
  have hb := B.bytes
  have hr := B.returns
  have hbw : ∀ w ∈ bw, w.before _ s = true := fun w h => atoms_spec (ws := wX_event) B.pre w (List.mem_cons_of_mem _ h)
  have hown : s.vm.findClass "EventPatterns" = some m.cls := findClass_of_methodNamed B.named
  have hlocks := B.notSynchronized
  subst hsz
  have hD := hD0.self (sz := s.heap.size)
  generalize hAe : va_A (xw q cI cZ cG a f w) s.heap.size = A at hD hE ⊢
  have hA : ∀ q : Nat, s.heap.size ≤ q → A q := fun q h => by rw [← hAe]; exact Or.inr h
  have hS : va_S A s.heap s.heap [] := va_S.rf
  have hl := lv_entry ([.ref (q 0), .int (tm), .int (kd), .int (va)]) (n := 4) (Nat.le_of_ble_eq_true rfl)
  rw [lg_entry_eq]
  generalize (lg_sl ([.ref (q 0), .int (tm), .int (kd), .int (va)]) ++ List.replicate (4 - (lg_sl ([.ref (q 0), .int (tm), .int (kd), .int (va)])).length) Slot.unset).toArray = ls at hl ⊢
  have hl : lv_has ls 4 [(0, .ref (q 0)), (1, .int (tm)), (2, .int (kd)), (3, .int (va))] := hl
  refine lv_iload_n hx hb dX_event_0 rfl (lv_at hl 1 rfl) ?_
  refine lv_aload_n hx hb dX_event_1 rfl (lv_at hl 0 rfl) ?_
  refine vp_callSi (W.runV (As := []) (rest := [.int (tm)]) ⟨hx, hb, hml, hown, hbw⟩ (tX_earliestTime l dC dI q cI cZ cG a f w n hn hf1) (cwV 0 hbw (bw_V km_X_62 ki_yX_earliestTime ksel_yX_earliestTime ki_EventPatterns kcX_earliestTime) rfl rfl rfl (by decide +kernel) ⟨Nat.le_of_ble_eq_true rfl, Nat.le_of_ble_eq_true rfl⟩) ⟨fun a U g mk q => by obtain ⟨q0, qP, qK⟩ := q; exact ⟨q0, qP, va_K.moved (u := U) (U := U.calling g mk a) (Vm.Alike.refl U.vm) qK⟩, va_recv hK hP (ci := 0) (q0 := 0) rfl rfl, fun U hU hW => ⟨rfl, by rw [hU]; exact hP, va_K.moved hW.alike hK⟩⟩ rfl rfl hl.1 rfl (lv_room (Nat.le_of_ble_eq_true rfl)) dX_event_2 ⟨Nat.le_of_ble_eq_true rfl, Nat.le_of_ble_eq_true rfl⟩) (fun r_2 hq => ?_)
  have hq : r_2 = xLate a n := hq
  subst hq
  refine lv_icmp_lt (tgt := 14) hx hb dX_event_5 (by decide) (fun c_5 => ?_) (fun c_5 => ?_)
  · obtain ⟨sa, hstr⟩ := hE.2.2.2.2 (69, "no such time here") (by decide)
    exact vx_throwS (text := "no such time here") (names := ["java/lang/RuntimeException", "java/lang/Exception"]) hx hb hE.1 hown (by decide) (by decide) (hbw _ kl_X_67) (hbw _ ki_java_lang_IllegalArgumentException) hstr (xat_IAE hbw hE) xgd_IAE hE.2.1 hE.2.2.1 hS (hl.1.trans hml.symm) dX_event_14 dX_event_17 dX_event_18 dX_event_20 dX_event_23 (fun x hx => (hno x hx).elim) (Nat.le_of_ble_eq_true rfl) (Nat.le_of_ble_eq_true rfl) (Nat.le_of_ble_eq_true rfl) (Nat.le_of_ble_eq_true rfl) hlocks (fun t hal hle hkeep => ⟨(a, f, w), rfl, ⟨Or.inl ⟨rfl, by first | exact Or.inl c_5 | exact Or.inr (Or.inl (Int32.not_le.mp c_11)) | exact Or.inr (Or.inr (Or.inl c_25)) | exact Or.inr (Or.inr (Or.inr (Int32.not_le.mp c_31)))⟩, hP.kept (fun k q hk => hkeep q.1 ((hP k q hk).lt)), va_K.moved hal hK, hD⟩, ⟨Nat.le_trans hS.1 hle, fun q h1 h2 => (hkeep q (Nat.lt_of_lt_of_le h1 hS.1)).trans (hS.2.1 q h1 h2)⟩⟩) hS.2.2 (Nat.le_of_ble_eq_true rfl) (Nat.le_of_ble_eq_true rfl)
  · refine lv_iload_n hx hb dX_event_8 rfl (lv_at hl 1 rfl) ?_
    refine lv_ldc (v := 1000000) hx hb hown (hbw _ kk_X_66) dX_event_9 ?_
    refine lv_icmp_le (tgt := 24) hx hb dX_event_11 (by decide) (fun c_11 => ?_) (fun c_11 => ?_)
    · refine lv_iload_n hx hb dX_event_24 rfl (lv_at hl 2 rfl) ?_
      refine lv_if_lt (tgt := 34) hx hb dX_event_25 (by decide) (fun c_25 => ?_) (fun c_25 => ?_)
      · obtain ⟨sa, hstr⟩ := hE.2.2.2.2 (74, "no such kind") (by decide)
        exact vx_throwS (text := "no such kind") (names := ["java/lang/RuntimeException", "java/lang/Exception"]) hx hb hE.1 hown (by decide) (by decide) (hbw _ kl_X_67) (hbw _ ki_java_lang_IllegalArgumentException) hstr (xat_IAE hbw hE) xgd_IAE hE.2.1 hE.2.2.1 hS (hl.1.trans hml.symm) dX_event_34 dX_event_37 dX_event_38 dX_event_40 dX_event_43 (fun x hx => (hno x hx).elim) (Nat.le_of_ble_eq_true rfl) (Nat.le_of_ble_eq_true rfl) (Nat.le_of_ble_eq_true rfl) (Nat.le_of_ble_eq_true rfl) hlocks (fun t hal hle hkeep => ⟨(a, f, w), rfl, ⟨Or.inl ⟨rfl, by first | exact Or.inl c_5 | exact Or.inr (Or.inl (Int32.not_le.mp c_11)) | exact Or.inr (Or.inr (Or.inl c_25)) | exact Or.inr (Or.inr (Or.inr (Int32.not_le.mp c_31)))⟩, hP.kept (fun k q hk => hkeep q.1 ((hP k q hk).lt)), va_K.moved hal hK, hD⟩, ⟨Nat.le_trans hS.1 hle, fun q h1 h2 => (hkeep q (Nat.lt_of_lt_of_le h1 hS.1)).trans (hS.2.1 q h1 h2)⟩⟩) hS.2.2 (Nat.le_of_ble_eq_true rfl) (Nat.le_of_ble_eq_true rfl)
      · refine lv_iload_n hx hb dX_event_28 rfl (lv_at hl 2 rfl) ?_
        refine lv_bipush (v := 7) hx hb dX_event_29 (by decide) ?_
        refine lv_icmp_le (tgt := 44) hx hb dX_event_31 (by decide) (fun c_31 => ?_) (fun c_31 => ?_)
        · refine lv_aload_n hx hb dX_event_44 rfl (lv_at hl 0 rfl) ?_
          refine va_get (D := (dC, dI)) (ci := 0) (v := .int (nI (cm))) (C := "EventPatterns") (T := TX) (N := 16) hx hb hbw inX hown hK hP 0 rfl rfl 3 (by decide) (hbw _ kf_X_43) (fun _ h9 => h9) (congrArg (fun z => some (Value.int z)) (hf0)) dX_event_45 ?_
          refine lv_sipush (v := 400) hx hb dX_event_48 (by decide) ?_
          refine nr_icmp_lt (tgt := 64) hx hb (a1 := cm) (b1 := 400) (by omega) (by omega) dX_event_51 (by decide) (fun c_51 => ?_) (fun c_51 => ?_)
          · refine lv_aload_n hx hb dX_event_64 rfl (lv_at hl 0 rfl) ?_
            refine va_get (D := (dC, dI)) (ci := 0) (v := .int (nI (n))) (C := "EventPatterns") (T := TX) (N := 16) hx hb hbw inX hown hK hP 0 rfl rfl 4 (by decide) (hbw _ kf_X_47) (fun _ h9 => h9) (congrArg (fun z => some (Value.int z)) (hf1)) dX_event_65 ?_
            refine lv_bipush (v := 16) hx hb dX_event_68 (by decide) ?_
            refine nr_icmp_lt (tgt := 77) hx hb (a1 := n) (b1 := 16) (by omega) (by omega) dX_event_70 (by decide) (fun c_70 => ?_) (fun c_70 => ?_)
            · refine lv_aload_n hx hb dX_event_77 rfl (lv_at hl 0 rfl) ?_
              refine va_get (D := (dC, dI)) (ci := 0) (v := .ref (q 1)) (C := "EventPatterns") (T := TX) (N := 16) hx hb hbw inX hown hK hP 0 rfl rfl 0 (by decide) (hbw _ kf_X_9) (fun _ h9 => h9) rfl dX_event_78 ?_
              refine lv_aload_n hx hb dX_event_81 rfl (lv_at hl 0 rfl) ?_
              refine va_get (D := (dC, dI)) (ci := 0) (v := .int (nI (n))) (C := "EventPatterns") (T := TX) (N := 16) hx hb hbw inX hown hK hP 0 rfl rfl 4 (by decide) (hbw _ kf_X_47) (fun _ h9 => h9) (congrArg (fun z => some (Value.int z)) (hf1)) dX_event_82 ?_
              refine lv_iload_n hx hb dX_event_85 rfl (lv_at hl 1 rfl) ?_
              refine nr_iast hx hb hK hP hD hS 1 0 rfl rfl (j := n) (by omega) (by decide) dX_event_86 (fun H locs hP hD hS => ?_)
              have hP : va_P (dC, dI) cls2 (xw q cI cZ cG (va_up (a) 0 (upd (a 0) (n) (tm))) (f) (w)) H := hP
              have hD : va_D A (xw q cI cZ cG (va_up (a) 0 (upd (a 0) (n) (tm))) (f) (w)) := hD
              refine lv_aload_n hx hb dX_event_87 rfl (lv_at hl 0 rfl) ?_
              refine va_get (D := (dC, dI)) (ci := 0) (v := .ref (q 2)) (C := "EventPatterns") (T := TX) (N := 16) hx hb hbw inX hown hK hP 0 rfl rfl 1 (by decide) (hbw _ kf_X_13) (fun _ h9 => h9) rfl dX_event_88 ?_
              refine lv_aload_n hx hb dX_event_91 rfl (lv_at hl 0 rfl) ?_
              refine va_get (D := (dC, dI)) (ci := 0) (v := .int (nI (n))) (C := "EventPatterns") (T := TX) (N := 16) hx hb hbw inX hown hK hP 0 rfl rfl 4 (by decide) (hbw _ kf_X_47) (fun _ h9 => h9) (congrArg (fun z => some (Value.int z)) (hf1)) dX_event_92 ?_
              refine lv_iload_n hx hb dX_event_95 rfl (lv_at hl 2 rfl) ?_
              refine nr_iast hx hb hK hP hD hS 2 0 rfl rfl (j := n) (by omega) (by decide) dX_event_96 (fun H locs hP hD hS => ?_)
              have hP : va_P (dC, dI) cls2 (xw q cI cZ cG (va_up (va_up (a) 0 (upd (a 0) (n) (tm))) 1 (upd (a 1) (n) (kd))) (f) (w)) H := hP
              have hD : va_D A (xw q cI cZ cG (va_up (va_up (a) 0 (upd (a 0) (n) (tm))) 1 (upd (a 1) (n) (kd))) (f) (w)) := hD
              refine lv_aload_n hx hb dX_event_97 rfl (lv_at hl 0 rfl) ?_
              refine va_get (D := (dC, dI)) (ci := 0) (v := .ref (q 3)) (C := "EventPatterns") (T := TX) (N := 16) hx hb hbw inX hown hK hP 0 rfl rfl 2 (by decide) (hbw _ kf_X_16) (fun _ h9 => h9) rfl dX_event_98 ?_
              refine lv_aload_n hx hb dX_event_101 rfl (lv_at hl 0 rfl) ?_
              refine va_get (D := (dC, dI)) (ci := 0) (v := .int (nI (n))) (C := "EventPatterns") (T := TX) (N := 16) hx hb hbw inX hown hK hP 0 rfl rfl 4 (by decide) (hbw _ kf_X_47) (fun _ h9 => h9) (congrArg (fun z => some (Value.int z)) (hf1)) dX_event_102 ?_
              refine lv_iload_n hx hb dX_event_105 rfl (lv_at hl 3 rfl) ?_
              refine nr_iast hx hb hK hP hD hS 3 0 rfl rfl (j := n) (by omega) (by decide) dX_event_106 (fun H locs hP hD hS => ?_)
              have hP : va_P (dC, dI) cls2 (xw q cI cZ cG (va_up (va_up (va_up (a) 0 (upd (a 0) (n) (tm))) 1 (upd (a 1) (n) (kd))) 2 (upd (a 2) (n) (va))) (f) (w)) H := hP
              have hD : va_D A (xw q cI cZ cG (va_up (va_up (va_up (a) 0 (upd (a 0) (n) (tm))) 1 (upd (a 1) (n) (kd))) 2 (upd (a 2) (n) (va))) (f) (w)) := hD
              refine lv_aload_n hx hb dX_event_107 rfl (lv_at hl 0 rfl) ?_
              refine lv_dup hx hb dX_event_108 rfl ?_
              refine va_get (D := (dC, dI)) (ci := 0) (v := .int (nI (n))) (C := "EventPatterns") (T := TX) (N := 16) hx hb hbw inX hown hK hP 0 rfl rfl 4 (by decide) (hbw _ kf_X_47) (fun _ h9 => h9) (congrArg (fun z => some (Value.int z)) (hf1)) dX_event_109 ?_
              refine lv_iconst (v := 1) hx hb dX_event_112 (by decide) ?_
              refine nr_iadd hx hb (a1 := n) (b1 := 1) dX_event_113 ?_
              refine va_put (D := (dC, dI)) (ci := 0) (v := .int (nI (n + 1))) (ty := .int) (C := "EventPatterns") (T := TX) (N := 16) hx hb hbw inX tyX okX nmX hown hK hP hD hS 0 rfl rfl 4 (by decide) (hbw _ kf_X_47) (fun _ h9 => h9) rfl (by decide +kernel) rfl rfl (Nat.le_of_ble_eq_true rfl) dX_event_114 (fun H locs hP hD hS => ?_)
              have hP : va_P (dC, dI) cls2 (xw q cI cZ cG (va_up (va_up (va_up (a) 0 (upd (a 0) (n) (tm))) 1 (upd (a 1) (n) (kd))) 2 (upd (a 2) (n) (va))) (va_up (f) 1 (nI (n + 1))) (w)) H := hP
              have hD : va_D A (xw q cI cZ cG (va_up (va_up (va_up (a) 0 (upd (a 0) (n) (tm))) 1 (upd (a 1) (n) (kd))) 2 (upd (a 2) (n) (va))) (va_up (f) 1 (nI (n + 1))) (w)) := hD
              refine lv_aload_n hx hb dX_event_117 rfl (lv_at hl 0 rfl) ?_
              refine lv_dup hx hb dX_event_118 rfl ?_
              refine va_get (D := (dC, dI)) (ci := 0) (v := .int (nI (cm))) (C := "EventPatterns") (T := TX) (N := 16) hx hb hbw inX hown hK hP 0 rfl rfl 3 (by decide) (hbw _ kf_X_43) (fun _ h9 => h9) (congrArg (fun z => some (Value.int z)) (hf0)) dX_event_119 ?_
              refine lv_iconst (v := 1) hx hb dX_event_122 (by decide) ?_
              refine nr_iadd hx hb (a1 := cm) (b1 := 1) dX_event_123 ?_
              refine va_put (D := (dC, dI)) (ci := 0) (v := .int (nI (cm + 1))) (ty := .int) (C := "EventPatterns") (T := TX) (N := 16) hx hb hbw inX tyX okX nmX hown hK hP hD hS 0 rfl rfl 3 (by decide) (hbw _ kf_X_43) (fun _ h9 => h9) rfl (by decide +kernel) rfl rfl (Nat.le_of_ble_eq_true rfl) dX_event_124 (fun H locs hP hD hS => ?_)
              have hP : va_P (dC, dI) cls2 (xw q cI cZ cG (va_up (va_up (va_up (a) 0 (upd (a 0) (n) (tm))) 1 (upd (a 1) (n) (kd))) 2 (upd (a 2) (n) (va))) (va_up (va_up (f) 1 (nI (n + 1))) 0 (nI (cm + 1))) (w)) H := hP
              have hD : va_D A (xw q cI cZ cG (va_up (va_up (va_up (a) 0 (upd (a 0) (n) (tm))) 1 (upd (a 1) (n) (kd))) 2 (upd (a 2) (n) (va))) (va_up (va_up (f) 1 (nI (n + 1))) 0 (nI (cm + 1))) (w)) := hD
              refine lv_aload_n hx hb dX_event_127 rfl (lv_at hl 0 rfl) ?_
              refine va_get (D := (dC, dI)) (ci := 0) (v := .int (nI (cm + 1))) (C := "EventPatterns") (T := TX) (N := 16) hx hb hbw inX hown hK hP 0 rfl rfl 3 (by decide) (hbw _ kf_X_43) (fun _ h9 => h9) rfl dX_event_128 ?_
              refine lv_iconst (v := 1) hx hb dX_event_131 (by decide) ?_
              refine nr_isub hx hb (a1 := cm + 1) (b1 := 1) (by omega) dX_event_132 ?_
              refine vx_ret ?_
              refine W.widen (k := 1) (n := 6) (by omega) (by omega) ?_
              exact W.iret (v := nI ((cm + 1) - 1)) hx hb hr (fun t ht hW => ⟨⟨nI ((cm + 1) - 1), (xEvA a n tm kd va, va_up (va_up (f) 1 (nI (n + 1))) 0 (nI (cm + 1)), w), rfl, ⟨⟨by rintro (h | h | h | h) <;> first | exact c_5 h | exact absurd c_11 (Int32.not_le.mpr h) | exact c_25 h | exact absurd c_31 (Int32.not_le.mpr h), by omega⟩, by rw [Nat.add_sub_cancel], by rw [xEv, if_pos (by omega)]⟩, by rw [ht]; exact hP, va_K.moved hW.alike hK, hD⟩, hS.F ht⟩) hS.2.2 dX_event_133
            · refine lv_aload_n hx hb dX_event_73 rfl (lv_at hl 0 rfl) ?_
              have hFc := va_free (wc := xw q cI cZ cG (a) (f) (w)) hD hS hA (List.range 27) rfl
              refine va_callv (va_runV (As := []) (rest := []) ⟨hx, hb, hml, hown, hbw⟩ (tX_dropOldest l dC dI q cI cZ cG a f w s.heap.size) (cwV 0 hbw (bw_V km_X_81 ki_yX_dropOldest ksel_yX_dropOldest ki_EventPatterns kcX_dropOldest) rfl rfl rfl (by decide +kernel) ⟨Nat.le_of_ble_eq_true rfl, Nat.le_of_ble_eq_true rfl⟩) ⟨fun a U g mk q => by obtain ⟨q0, q1, qP, qK, qD⟩ := q; exact ⟨q0, q1, qP, va_K.moved (u := U) (U := U.calling g mk a) (Vm.Alike.refl U.vm) qK, qD⟩, va_recv hK hP (ci := 0) (q0 := 0) rfl rfl, fun U hU hW => ⟨rfl, by rw [hU], by rw [hU]; exact hP, va_K.moved hW.alike hK, hD.weaken (fun _ _ _ _ => trivial)⟩⟩ rfl rfl hl.1 rfl (lv_room (Nat.le_of_ble_eq_true rfl)) dX_event_74 ⟨Nat.le_of_ble_eq_true rfl, Nat.le_of_ble_eq_true rfl⟩) hS (fun q _ h => hFc q h) hFc (fun u t H1 locs ht hvm hq hB hz1 hk1 hS => ?_)
              obtain ⟨a1, hdr, rfl⟩ := hq
              obtain ⟨hP1, hK1, hD1⟩ := hB
              rw [ht] at hP1
              have hP : va_P (dC, dI) cls2 (xw q cI cZ cG (a1) (va_up f 1 15) (w)) H1 := hP1
              have hD : va_D A (xw q cI cZ cG (a1) (va_up f 1 15) (w)) := hD1.weaken (fun _ _ _ h => hFc _ h)
              generalize H1 = H at hP hS ⊢
              refine lv_aload_n hx hb dX_event_77 rfl (lv_at hl 0 rfl) ?_
              refine va_get (D := (dC, dI)) (ci := 0) (v := .ref (q 1)) (C := "EventPatterns") (T := TX) (N := 16) hx hb hbw inX hown hK hP 0 rfl rfl 0 (by decide) (hbw _ kf_X_9) (fun _ h9 => h9) rfl dX_event_78 ?_
              refine lv_aload_n hx hb dX_event_81 rfl (lv_at hl 0 rfl) ?_
              refine va_get (D := (dC, dI)) (ci := 0) (v := .int (15)) (C := "EventPatterns") (T := TX) (N := 16) hx hb hbw inX hown hK hP 0 rfl rfl 4 (by decide) (hbw _ kf_X_47) (fun _ h9 => h9) rfl dX_event_82 ?_
              refine lv_iload_n hx hb dX_event_85 rfl (lv_at hl 1 rfl) ?_
              refine nr_iast hx hb hK hP hD hS 1 0 rfl rfl (j := 15) (by omega) (by decide) dX_event_86 (fun H locs hP hD hS => ?_)
              have hP : va_P (dC, dI) cls2 (xw q cI cZ cG (va_up (a1) 0 (upd (a1 0) (15) (tm))) (va_up f 1 15) (w)) H := hP
              have hD : va_D A (xw q cI cZ cG (va_up (a1) 0 (upd (a1 0) (15) (tm))) (va_up f 1 15) (w)) := hD
              refine lv_aload_n hx hb dX_event_87 rfl (lv_at hl 0 rfl) ?_
              refine va_get (D := (dC, dI)) (ci := 0) (v := .ref (q 2)) (C := "EventPatterns") (T := TX) (N := 16) hx hb hbw inX hown hK hP 0 rfl rfl 1 (by decide) (hbw _ kf_X_13) (fun _ h9 => h9) rfl dX_event_88 ?_
              refine lv_aload_n hx hb dX_event_91 rfl (lv_at hl 0 rfl) ?_
              refine va_get (D := (dC, dI)) (ci := 0) (v := .int (15)) (C := "EventPatterns") (T := TX) (N := 16) hx hb hbw inX hown hK hP 0 rfl rfl 4 (by decide) (hbw _ kf_X_47) (fun _ h9 => h9) rfl dX_event_92 ?_
              refine lv_iload_n hx hb dX_event_95 rfl (lv_at hl 2 rfl) ?_
              refine nr_iast hx hb hK hP hD hS 2 0 rfl rfl (j := 15) (by omega) (by decide) dX_event_96 (fun H locs hP hD hS => ?_)
              have hP : va_P (dC, dI) cls2 (xw q cI cZ cG (va_up (va_up (a1) 0 (upd (a1 0) (15) (tm))) 1 (upd (a1 1) (15) (kd))) (va_up f 1 15) (w)) H := hP
              have hD : va_D A (xw q cI cZ cG (va_up (va_up (a1) 0 (upd (a1 0) (15) (tm))) 1 (upd (a1 1) (15) (kd))) (va_up f 1 15) (w)) := hD
              refine lv_aload_n hx hb dX_event_97 rfl (lv_at hl 0 rfl) ?_
              refine va_get (D := (dC, dI)) (ci := 0) (v := .ref (q 3)) (C := "EventPatterns") (T := TX) (N := 16) hx hb hbw inX hown hK hP 0 rfl rfl 2 (by decide) (hbw _ kf_X_16) (fun _ h9 => h9) rfl dX_event_98 ?_
              refine lv_aload_n hx hb dX_event_101 rfl (lv_at hl 0 rfl) ?_
              refine va_get (D := (dC, dI)) (ci := 0) (v := .int (15)) (C := "EventPatterns") (T := TX) (N := 16) hx hb hbw inX hown hK hP 0 rfl rfl 4 (by decide) (hbw _ kf_X_47) (fun _ h9 => h9) rfl dX_event_102 ?_
              refine lv_iload_n hx hb dX_event_105 rfl (lv_at hl 3 rfl) ?_
              refine nr_iast hx hb hK hP hD hS 3 0 rfl rfl (j := 15) (by omega) (by decide) dX_event_106 (fun H locs hP hD hS => ?_)
              have hP : va_P (dC, dI) cls2 (xw q cI cZ cG (va_up (va_up (va_up (a1) 0 (upd (a1 0) (15) (tm))) 1 (upd (a1 1) (15) (kd))) 2 (upd (a1 2) (15) (va))) (va_up f 1 15) (w)) H := hP
              have hD : va_D A (xw q cI cZ cG (va_up (va_up (va_up (a1) 0 (upd (a1 0) (15) (tm))) 1 (upd (a1 1) (15) (kd))) 2 (upd (a1 2) (15) (va))) (va_up f 1 15) (w)) := hD
              refine lv_aload_n hx hb dX_event_107 rfl (lv_at hl 0 rfl) ?_
              refine lv_dup hx hb dX_event_108 rfl ?_
              refine va_get (D := (dC, dI)) (ci := 0) (v := .int (15)) (C := "EventPatterns") (T := TX) (N := 16) hx hb hbw inX hown hK hP 0 rfl rfl 4 (by decide) (hbw _ kf_X_47) (fun _ h9 => h9) rfl dX_event_109 ?_
              refine lv_iconst (v := 1) hx hb dX_event_112 (by decide) ?_
              refine nr_iadd hx hb (a1 := 15) (b1 := 1) dX_event_113 ?_
              refine va_put (D := (dC, dI)) (ci := 0) (v := .int (nI (15 + 1))) (ty := .int) (C := "EventPatterns") (T := TX) (N := 16) hx hb hbw inX tyX okX nmX hown hK hP hD hS 0 rfl rfl 4 (by decide) (hbw _ kf_X_47) (fun _ h9 => h9) rfl (by decide +kernel) rfl rfl (Nat.le_of_ble_eq_true rfl) dX_event_114 (fun H locs hP hD hS => ?_)
              have hP : va_P (dC, dI) cls2 (xw q cI cZ cG (va_up (va_up (va_up (a1) 0 (upd (a1 0) (15) (tm))) 1 (upd (a1 1) (15) (kd))) 2 (upd (a1 2) (15) (va))) (va_up (va_up f 1 15) 1 (nI (15 + 1))) (w)) H := hP
              have hD : va_D A (xw q cI cZ cG (va_up (va_up (va_up (a1) 0 (upd (a1 0) (15) (tm))) 1 (upd (a1 1) (15) (kd))) 2 (upd (a1 2) (15) (va))) (va_up (va_up f 1 15) 1 (nI (15 + 1))) (w)) := hD
              refine lv_aload_n hx hb dX_event_117 rfl (lv_at hl 0 rfl) ?_
              refine lv_dup hx hb dX_event_118 rfl ?_
              refine va_get (D := (dC, dI)) (ci := 0) (v := .int (nI (cm))) (C := "EventPatterns") (T := TX) (N := 16) hx hb hbw inX hown hK hP 0 rfl rfl 3 (by decide) (hbw _ kf_X_43) (fun _ h9 => h9) (congrArg (fun z => some (Value.int z)) (hf0)) dX_event_119 ?_
              refine lv_iconst (v := 1) hx hb dX_event_122 (by decide) ?_
              refine nr_iadd hx hb (a1 := cm) (b1 := 1) dX_event_123 ?_
              refine va_put (D := (dC, dI)) (ci := 0) (v := .int (nI (cm + 1))) (ty := .int) (C := "EventPatterns") (T := TX) (N := 16) hx hb hbw inX tyX okX nmX hown hK hP hD hS 0 rfl rfl 3 (by decide) (hbw _ kf_X_43) (fun _ h9 => h9) rfl (by decide +kernel) rfl rfl (Nat.le_of_ble_eq_true rfl) dX_event_124 (fun H locs hP hD hS => ?_)
              have hP : va_P (dC, dI) cls2 (xw q cI cZ cG (va_up (va_up (va_up (a1) 0 (upd (a1 0) (15) (tm))) 1 (upd (a1 1) (15) (kd))) 2 (upd (a1 2) (15) (va))) (va_up (va_up (va_up f 1 15) 1 (nI (15 + 1))) 0 (nI (cm + 1))) (w)) H := hP
              have hD : va_D A (xw q cI cZ cG (va_up (va_up (va_up (a1) 0 (upd (a1 0) (15) (tm))) 1 (upd (a1 1) (15) (kd))) 2 (upd (a1 2) (15) (va))) (va_up (va_up (va_up f 1 15) 1 (nI (15 + 1))) 0 (nI (cm + 1))) (w)) := hD
              refine lv_aload_n hx hb dX_event_127 rfl (lv_at hl 0 rfl) ?_
              refine va_get (D := (dC, dI)) (ci := 0) (v := .int (nI (cm + 1))) (C := "EventPatterns") (T := TX) (N := 16) hx hb hbw inX hown hK hP 0 rfl rfl 3 (by decide) (hbw _ kf_X_43) (fun _ h9 => h9) rfl dX_event_128 ?_
              refine lv_iconst (v := 1) hx hb dX_event_131 (by decide) ?_
              refine nr_isub hx hb (a1 := cm + 1) (b1 := 1) (by omega) dX_event_132 ?_
              refine vx_ret ?_
              refine W.widen (k := 1) (n := 6) (by omega) (by omega) ?_
              exact W.iret (v := nI ((cm + 1) - 1)) hx hb hr (fun t ht hW => ⟨⟨nI ((cm + 1) - 1), (xEvA a1 15 tm kd va, va_up (va_up (va_up f 1 15) 1 (nI (15 + 1))) 0 (nI (cm + 1)), w), rfl, ⟨⟨by rintro (h | h | h | h) <;> first | exact c_5 h | exact absurd c_11 (Int32.not_le.mpr h) | exact c_25 h | exact absurd c_31 (Int32.not_le.mpr h), by omega⟩, by rw [Nat.add_sub_cancel], by rw [xEv, if_neg (by omega), ← hdr]⟩, by rw [ht]; exact hP, va_K.moved hW.alike hK, hD⟩, hS.F ht⟩) hS.2.2 dX_event_133
          · obtain ⟨sa, hstr⟩ := hE.2.2.2.2 (78, "no room for more events") (by decide)
            exact vx_throwS (text := "no room for more events") (names := ["java/lang/RuntimeException", "java/lang/Exception"]) hx hb hE.1 hown (by decide) (by decide) (hbw _ kl_X_76) (hbw _ ki_java_lang_UnsupportedOperationException) hstr (xat_UOE hbw hE) xgd_UOE hE.2.1 hE.2.2.1 hS (hl.1.trans hml.symm) dX_event_54 dX_event_57 dX_event_58 dX_event_60 dX_event_63 (fun x hx => (hno x hx).elim) (Nat.le_of_ble_eq_true rfl) (Nat.le_of_ble_eq_true rfl) (Nat.le_of_ble_eq_true rfl) (Nat.le_of_ble_eq_true rfl) hlocks (fun t hal hle hkeep => ⟨(a, f, w), rfl, ⟨Or.inr ⟨rfl, by rintro (h | h | h | h) <;> first | exact c_5 h | exact absurd c_11 (Int32.not_le.mpr h) | exact c_25 h | exact absurd c_31 (Int32.not_le.mpr h), by omega⟩, hP.kept (fun k q hk => hkeep q.1 ((hP k q hk).lt)), va_K.moved hal hK, hD⟩, ⟨Nat.le_trans hS.1 hle, fun q h1 h2 => (hkeep q (Nat.lt_of_lt_of_le h1 hS.1)).trans (hS.2.1 q h1 h2)⟩⟩) hS.2.2 (Nat.le_of_ble_eq_true rfl) (Nat.le_of_ble_eq_true rfl)
        · obtain ⟨sa, hstr⟩ := hE.2.2.2.2 (74, "no such kind") (by decide)
          exact vx_throwS (text := "no such kind") (names := ["java/lang/RuntimeException", "java/lang/Exception"]) hx hb hE.1 hown (by decide) (by decide) (hbw _ kl_X_67) (hbw _ ki_java_lang_IllegalArgumentException) hstr (xat_IAE hbw hE) xgd_IAE hE.2.1 hE.2.2.1 hS (hl.1.trans hml.symm) dX_event_34 dX_event_37 dX_event_38 dX_event_40 dX_event_43 (fun x hx => (hno x hx).elim) (Nat.le_of_ble_eq_true rfl) (Nat.le_of_ble_eq_true rfl) (Nat.le_of_ble_eq_true rfl) (Nat.le_of_ble_eq_true rfl) hlocks (fun t hal hle hkeep => ⟨(a, f, w), rfl, ⟨Or.inl ⟨rfl, by first | exact Or.inl c_5 | exact Or.inr (Or.inl (Int32.not_le.mp c_11)) | exact Or.inr (Or.inr (Or.inl c_25)) | exact Or.inr (Or.inr (Or.inr (Int32.not_le.mp c_31)))⟩, hP.kept (fun k q hk => hkeep q.1 ((hP k q hk).lt)), va_K.moved hal hK, hD⟩, ⟨Nat.le_trans hS.1 hle, fun q h1 h2 => (hkeep q (Nat.lt_of_lt_of_le h1 hS.1)).trans (hS.2.1 q h1 h2)⟩⟩) hS.2.2 (Nat.le_of_ble_eq_true rfl) (Nat.le_of_ble_eq_true rfl)
    · obtain ⟨sa, hstr⟩ := hE.2.2.2.2 (69, "no such time here") (by decide)
      exact vx_throwS (text := "no such time here") (names := ["java/lang/RuntimeException", "java/lang/Exception"]) hx hb hE.1 hown (by decide) (by decide) (hbw _ kl_X_67) (hbw _ ki_java_lang_IllegalArgumentException) hstr (xat_IAE hbw hE) xgd_IAE hE.2.1 hE.2.2.1 hS (hl.1.trans hml.symm) dX_event_14 dX_event_17 dX_event_18 dX_event_20 dX_event_23 (fun x hx => (hno x hx).elim) (Nat.le_of_ble_eq_true rfl) (Nat.le_of_ble_eq_true rfl) (Nat.le_of_ble_eq_true rfl) (Nat.le_of_ble_eq_true rfl) hlocks (fun t hal hle hkeep => ⟨(a, f, w), rfl, ⟨Or.inl ⟨rfl, by first | exact Or.inl c_5 | exact Or.inr (Or.inl (Int32.not_le.mp c_11)) | exact Or.inr (Or.inr (Or.inl c_25)) | exact Or.inr (Or.inr (Or.inr (Int32.not_le.mp c_31)))⟩, hP.kept (fun k q hk => hkeep q.1 ((hP k q hk).lt)), va_K.moved hal hK, hD⟩, ⟨Nat.le_trans hS.1 hle, fun q h1 h2 => (hkeep q (Nat.lt_of_lt_of_le h1 hS.1)).trans (hS.2.1 q h1 h2)⟩⟩) hS.2.2 (Nat.le_of_ble_eq_true rfl) (Nat.le_of_ble_eq_true rfl)
end
section
/-! THE REFERENCE: its small methods -/
def iIn (v lo hi : Int32) : Bool := !decide (v < lo) && !decide (hi < v)
def mIs (b : Nat → Nat → Int32) (g : Nat → Int32) (e st fi : Nat) : Bool := decide ((b 3 st >>> (b 1 e &&& 31)) &&& 1 = 1) && !decide (g 3 < b 0 e - b 0 fi)
def mFit1 (b : Nat → Nat → Int32) (g : Nat → Int32) (e st bf fi : Nat) : Bool := mIs b g e st fi && (if b 4 st = 1 then !decide (b 2 e ≤ b 2 bf) else if b 4 st = 2 then !decide (b 2 bf ≤ b 2 e) else if b 4 st = 3 then decide (b 2 e = b 2 fi) else if b 4 st = 4 then !decide (b 2 e < b 5 st) else true)
def mFit0 (b : Nat → Nat → Int32) (g : Nat → Int32) (e st fi : Nat) : Bool := mIs b g e st fi && (if b 4 st = 1 then true else if b 4 st = 2 then true else if b 4 st = 3 then decide (b 2 e = b 2 fi) else if b 4 st = 4 then !decide (b 2 e < b 5 st) else true)
def mTh (x y z : Bool) : Nat := if x then 1 else if y then 2 else if z then 3 else 0
set_option maxHeartbeats 4000000 in
set_option maxRecDepth 100000 in
/-- in(v, low, high) -/
theorem tM_in (l : Launch) (v lo hi : Int32) : Met l yM_in wM_in ({ frames := 0, cells := 0, slots := 0, locals := 0 }) (va_Pc [.int (v), .int (lo), .int (hi)] (fun _ => True)) (vp_Si (fun r0 => r0 = bI (iIn v lo hi))) 0 0 (fun _ => False) := by
  refine Met.ofW (cc := cM_in) (maxL := 3) (ret := (some .boolean)) (by decide) rfl ?_
  intro p e s m args below meth c s₁ B hml hv
  obtain ⟨rfl, -⟩ := hv
  have hx := B.exec
  have hb := B.bytes
  have hr := B.returns
  have hbw : ∀ w ∈ bw, w.before _ s = true := fun w h => atoms_spec (ws := wM_in) B.pre w (List.mem_cons_of_mem _ h)
  have hown : s.vm.findClass "EventPatternsModel" = some m.cls := findClass_of_methodNamed B.named
  have hlocks := B.notSynchronized
  have hl := lv_entry ([.int (v), .int (lo), .int (hi)]) (n := 3) (Nat.le_of_ble_eq_true rfl)
  rw [lg_entry_eq]
  generalize (lg_sl ([.int (v), .int (lo), .int (hi)]) ++ List.replicate (3 - (lg_sl ([.int (v), .int (lo), .int (hi)])).length) Slot.unset).toArray = ls at hl ⊢
  have hl : lv_has ls 3 [(0, .int (v)), (1, .int (lo)), (2, .int (hi))] := hl
  refine lv_iload_n hx hb dM_in_0 rfl (lv_at hl 0 rfl) ?_
  refine lv_iload_n hx hb dM_in_1 rfl (lv_at hl 1 rfl) ?_
  refine lv_icmp_lt (tgt := 14) hx hb dM_in_2 (by decide) (fun c_2 => ?_) (fun c_2 => ?_)
  · refine lv_iconst (v := 0) hx hb dM_in_14 (by decide) ?_
    exact W.zret (v := 0) hx hb hr rfl (fun t ht hW => ⟨0, rfl, by first | (simp [iIn, bI, *]; done) | (subst_vars; simp [iIn, bI, *]; done) | (subst_vars; simp_all [iIn, bI]; done), ht⟩) (fun q h => by cases h) dM_in_15
  · refine lv_iload_n hx hb dM_in_5 rfl (lv_at hl 0 rfl) ?_
    refine lv_iload_n hx hb dM_in_6 rfl (lv_at hl 2 rfl) ?_
    refine lv_icmp_gt (tgt := 14) hx hb dM_in_7 (by decide) (fun c_7 => ?_) (fun c_7 => ?_)
    · refine lv_iconst (v := 0) hx hb dM_in_14 (by decide) ?_
      exact W.zret (v := 0) hx hb hr rfl (fun t ht hW => ⟨0, rfl, by first | (simp [iIn, bI, *]; done) | (subst_vars; simp [iIn, bI, *]; done) | (subst_vars; simp_all [iIn, bI]; done), ht⟩) (fun q h => by cases h) dM_in_15
    · refine lv_iconst (v := 1) hx hb dM_in_10 (by decide) ?_
      refine lv_goto (tgt := 15) hx hb dM_in_11 (by decide) ?_
      exact W.zret (v := 1) hx hb hr rfl (fun t ht hW => ⟨1, rfl, by first | (simp [iIn, bI, *]; done) | (subst_vars; simp [iIn, bI, *]; done) | (subst_vars; simp_all [iIn, bI]; done), ht⟩) (fun q h => by cases h) dM_in_15
set_option maxHeartbeats 4000000 in
set_option maxRecDepth 100000 in
/-- thrown() -/
theorem tM_thrown (l : Launch) (dC : Nat → ClassId) (dI : Nat → Nat → Nat) (r : Nat → Nat) (cI cZ cG : ClassId) (b : Nat → Nat → Int32) (g : Nat → Int32)   : Met l yM_thrown wM_thrown ({ frames := 0, cells := 0, slots := 0, locals := 0 }) (va_Pc [.ref (r 0)] (fun U => va_P (dC, dI) cls2 (mw r cI cZ b g) U.heap ∧ va_K (dC, dI) cls2 (xt cI cZ cG) U)) (vp_Si (fun r0 => r0 = g 0)) 0 0 (fun _ => False) := by
  refine Met.ofW (cc := cM_thrown) (maxL := 1) (ret := (some .int)) (by decide) rfl ?_
  intro p e s m args below meth c s₁ B hml hv
  obtain ⟨rfl, hP, hK⟩ := hv
  have hx := B.exec
  have hb := B.bytes
  have hr := B.returns
  have hbw : ∀ w ∈ bw, w.before _ s = true := fun w h => atoms_spec (ws := wM_thrown) B.pre w (List.mem_cons_of_mem _ h)
  have hown : s.vm.findClass "EventPatternsModel" = some m.cls := findClass_of_methodNamed B.named
  have hlocks := B.notSynchronized
  have hl := lv_entry ([.ref (r 0)]) (n := 1) (Nat.le_of_ble_eq_true rfl)
  rw [lg_entry_eq]
  generalize (lg_sl ([.ref (r 0)]) ++ List.replicate (1 - (lg_sl ([.ref (r 0)])).length) Slot.unset).toArray = ls at hl ⊢
  have hl : lv_has ls 1 [(0, .ref (r 0))] := hl
  refine lv_aload_n hx hb dM_thrown_0 rfl (lv_at hl 0 rfl) ?_
  refine va_get (D := (dC, dI)) (ci := 1) (v := .int (g 0)) (C := "EventPatternsModel") (T := TM) (N := 16) hx hb hbw inM hown hK hP 0 rfl rfl 0 (by decide) (hbw _ kf_M_41) (fun _ h9 => h9) rfl dM_thrown_1 ?_
  exact W.iret (v := g 0) hx hb hr (fun t ht hW => ⟨g 0, rfl, rfl, ht⟩) (fun q h => by cases h) dM_thrown_4
set_option maxHeartbeats 4000000 in
set_option maxRecDepth 100000 in
/-- from() -/
theorem tM_from (l : Launch) (dC : Nat → ClassId) (dI : Nat → Nat → Nat) (r : Nat → Nat) (cI cZ cG : ClassId) (b : Nat → Nat → Int32) (g : Nat → Int32) (ev : Nat) (hev : ev ≤ 400) (hg1 : g 1 = nI ev) : Met l yM_from wM_from ({ frames := 0, cells := 0, slots := 0, locals := 0 }) (va_Pc [.ref (r 0)] (fun U => va_P (dC, dI) cls2 (mw r cI cZ b g) U.heap ∧ va_K (dC, dI) cls2 (xt cI cZ cG) U)) (vp_Si (fun r0 => r0 = nI (ev - 16))) 0 0 (fun _ => False) := by
  refine Met.ofW (cc := cM_from) (maxL := 1) (ret := (some .int)) (by decide) rfl ?_
  intro p e s m args below meth c s₁ B hml hv
  obtain ⟨rfl, hP, hK⟩ := hv
  have hx := B.exec
  have hb := B.bytes
  have hr := B.returns
  have hbw : ∀ w ∈ bw, w.before _ s = true := fun w h => atoms_spec (ws := wM_from) B.pre w (List.mem_cons_of_mem _ h)
  have hown : s.vm.findClass "EventPatternsModel" = some m.cls := findClass_of_methodNamed B.named
  have hlocks := B.notSynchronized
  have hl := lv_entry ([.ref (r 0)]) (n := 1) (Nat.le_of_ble_eq_true rfl)
  rw [lg_entry_eq]
  generalize (lg_sl ([.ref (r 0)]) ++ List.replicate (1 - (lg_sl ([.ref (r 0)])).length) Slot.unset).toArray = ls at hl ⊢
  have hl : lv_has ls 1 [(0, .ref (r 0))] := hl
  refine lv_aload_n hx hb dM_from_0 rfl (lv_at hl 0 rfl) ?_
  refine va_get (D := (dC, dI)) (ci := 1) (v := .int (nI (ev))) (C := "EventPatternsModel") (T := TM) (N := 16) hx hb hbw inM hown hK hP 0 rfl rfl 1 (by decide) (hbw _ kf_M_45) (fun _ h9 => h9) (congrArg (fun z => some (Value.int z)) (hg1)) dM_from_1 ?_
  refine lv_bipush (v := 16) hx hb dM_from_4 (by decide) ?_
  refine nr_icmp_le (tgt := 19) hx hb (a1 := ev) (b1 := 16) (by omega) (by omega) dM_from_6 (by decide) (fun c_6 => ?_) (fun c_6 => ?_)
  · refine lv_iconst (v := 0) hx hb dM_from_19 (by decide) ?_
    exact W.iret (v := 0) hx hb hr (fun t ht hW => ⟨0, rfl, by first | rfl | (rw [show ev - 16 = 0 by omega]; rfl), ht⟩) (fun q h => by cases h) dM_from_20
  · refine lv_aload_n hx hb dM_from_9 rfl (lv_at hl 0 rfl) ?_
    refine va_get (D := (dC, dI)) (ci := 1) (v := .int (nI (ev))) (C := "EventPatternsModel") (T := TM) (N := 16) hx hb hbw inM hown hK hP 0 rfl rfl 1 (by decide) (hbw _ kf_M_45) (fun _ h9 => h9) (congrArg (fun z => some (Value.int z)) (hg1)) dM_from_10 ?_
    refine lv_bipush (v := 16) hx hb dM_from_13 (by decide) ?_
    refine nr_isub hx hb (a1 := ev) (b1 := 16) (by omega) dM_from_15 ?_
    refine lv_goto (tgt := 20) hx hb dM_from_16 (by decide) ?_
    exact W.iret (v := nI (ev - 16)) hx hb hr (fun t ht hW => ⟨nI (ev - 16), rfl, by first | rfl | (rw [show ev - 16 = 0 by omega]; rfl), ht⟩) (fun q h => by cases h) dM_from_20
set_option maxHeartbeats 4000000 in
set_option maxRecDepth 100000 in
/-- fits(e, s, NONE, first) -/
theorem tM_fits0 (l : Launch) (dC : Nat → ClassId) (dI : Nat → Nat → Nat) (r : Nat → Nat) (cI cZ cG : ClassId) (b : Nat → Nat → Int32) (g : Nat → Int32) (e1 st fi : Nat) (h1 : e1 < 400) (h2 : st < 5) (h4 : fi < 400) : Met l yM_fits wM_fits ({ frames := 0, cells := 0, slots := 0, locals := 0 }) (va_Pc [.ref (r 0), .int (nI (e1)), .int (nI (st)), .int (-1), .int (nI (fi))] (fun U => va_P (dC, dI) cls2 (mw r cI cZ b g) U.heap ∧ va_K (dC, dI) cls2 (xt cI cZ cG) U)) (vp_Si (fun r0 => r0 = bI (mFit0 b g e1 st fi))) 0 0 (fun _ => False) := by
  refine Met.ofW (cc := cM_fits) (maxL := 6) (ret := (some .boolean)) (by decide) rfl ?_
  intro p e s m args below meth c s₁ B hml hv
  obtain ⟨rfl, hP, hK⟩ := hv
  have hx := B.exec
  have hb := B.bytes
  have hr := B.returns
  have hbw : ∀ w ∈ bw, w.before _ s = true := fun w h => atoms_spec (ws := wM_fits) B.pre w (List.mem_cons_of_mem _ h)
  have hown : s.vm.findClass "EventPatternsModel" = some m.cls := findClass_of_methodNamed B.named
  have hlocks := B.notSynchronized
  have hl := lv_entry ([.ref (r 0), .int (nI (e1)), .int (nI (st)), .int (-1), .int (nI (fi))]) (n := 6) (Nat.le_of_ble_eq_true rfl)
  rw [lg_entry_eq]
  generalize (lg_sl ([.ref (r 0), .int (nI (e1)), .int (nI (st)), .int (-1), .int (nI (fi))]) ++ List.replicate (6 - (lg_sl ([.ref (r 0), .int (nI (e1)), .int (nI (st)), .int (-1), .int (nI (fi))])).length) Slot.unset).toArray = ls at hl ⊢
  have hl : lv_has ls 6 [(0, .ref (r 0)), (1, .int (nI (e1))), (2, .int (nI (st))), (3, .int (-1)), (4, .int (nI (fi)))] := hl
  refine lv_aload_n hx hb dM_fits_0 rfl (lv_at hl 0 rfl) ?_
  refine va_get (D := (dC, dI)) (ci := 1) (v := .ref (r 4)) (C := "EventPatternsModel") (T := TM) (N := 16) hx hb hbw inM hown hK hP 0 rfl rfl 8 (by decide) (hbw _ kf_M_19) (fun _ h9 => h9) rfl dM_fits_1 ?_
  refine lv_iload_n hx hb dM_fits_4 rfl (lv_at hl 2 rfl) ?_
  refine nr_iald hx hb hK hP 4 0 rfl rfl (j := st) (by omega) (by decide) dM_fits_5 ?_
  refine lv_aload_n hx hb dM_fits_6 rfl (lv_at hl 0 rfl) ?_
  refine va_get (D := (dC, dI)) (ci := 1) (v := .ref (r 2)) (C := "EventPatternsModel") (T := TM) (N := 16) hx hb hbw inM hown hK hP 0 rfl rfl 3 (by decide) (hbw _ kf_M_13) (fun _ h9 => h9) rfl dM_fits_7 ?_
  refine lv_iload_n hx hb dM_fits_10 rfl (lv_at hl 1 rfl) ?_
  refine nr_iald hx hb hK hP 2 0 rfl rfl (j := e1) (by omega) (by decide) dM_fits_11 ?_
  refine lv_ishr hx hb dM_fits_12 ?_
  refine lv_iconst (v := 1) hx hb dM_fits_13 (by decide) ?_
  refine lv_iand hx hb dM_fits_14 ?_
  refine lv_iconst (v := 1) hx hb dM_fits_15 (by decide) ?_
  refine lv_icmp_ne (tgt := 44) hx hb dM_fits_16 (by decide) (fun c_16 => ?_) (fun c_16 => ?_)
  · refine lv_iconst (v := 0) hx hb dM_fits_44 (by decide) ?_
    refine lv_istore (lv' := [(5, .int (0)), (0, .ref (r 0)), (1, .int (nI (e1))), (2, .int (nI (st))), (3, .int (-1)), (4, .int (nI (fi)))]) hx hb dM_fits_45 hl (by decide) rfl (fun ls hl => ?_)
    refine lv_aload_n hx hb dM_fits_47 rfl (lv_at hl 1 rfl) ?_
    refine va_get (D := (dC, dI)) (ci := 1) (v := .ref (r 5)) (C := "EventPatternsModel") (T := TM) (N := 16) hx hb hbw inM hown hK hP 0 rfl rfl 9 (by decide) (hbw _ kf_M_22) (fun _ h9 => h9) rfl dM_fits_48 ?_
    refine lv_iload_n hx hb dM_fits_51 rfl (lv_at hl 3 rfl) ?_
    refine nr_iald hx hb hK hP 5 0 rfl rfl (j := st) (by omega) (by decide) dM_fits_52 ?_
    by_cases t1 : (b 4) (st) = 1
    · refine lv_tableIn (off := 31) (tgt := 84) hx hb dM_fits_53 (by rw [t1]; decide) (by rw [t1]; decide) (by rw [t1]; decide) (by decide) ?_
      refine lv_iload hx hb dM_fits_84 (lv_at hl 0 rfl) ?_
      refine nr_if_eq (tgt := 112) hx hb (a1 := 0) (by omega) dM_fits_86 (by decide) (fun c_86 => ?_) (fun c_86 => ?_)
      · refine lv_iconst (v := 0) hx hb dM_fits_112 (by decide) ?_
        exact W.zret (v := 0) hx hb hr rfl (fun t ht hW => ⟨0, rfl, by first | (simp [mFit0, mFit1, mIs, bI, *]; done) | (subst_vars; simp [mFit0, mFit1, mIs, bI, *]; done) | (subst_vars; simp_all [mFit0, mFit1, mIs, bI]; done), ht⟩) (fun q h => by cases h) dM_fits_113
      · refine lv_iload_n hx hb dM_fits_89 rfl (lv_at hl 4 rfl) ?_
        refine lv_if_lt (tgt := 108) hx hb dM_fits_90 (by decide) (fun _ => ?_) (fun c9 => absurd (by decide) c9)
        refine lv_iconst (v := 1) hx hb dM_fits_108 (by decide) ?_
        refine lv_goto (tgt := 113) hx hb dM_fits_109 (by decide) ?_
        exact W.zret (v := 1) hx hb hr rfl (fun t ht hW => ⟨1, rfl, by first | (simp [mFit0, mFit1, mIs, bI, *]; done) | (subst_vars; simp [mFit0, mFit1, mIs, bI, *]; done) | (subst_vars; simp_all [mFit0, mFit1, mIs, bI]; done), ht⟩) (fun q h => by cases h) dM_fits_113
    by_cases t2 : (b 4) (st) = 2
    · refine lv_tableIn (off := 61) (tgt := 114) hx hb dM_fits_53 (by rw [t2]; decide) (by rw [t2]; decide) (by rw [t2]; decide) (by decide) ?_
      refine lv_iload hx hb dM_fits_114 (lv_at hl 0 rfl) ?_
      refine nr_if_eq (tgt := 142) hx hb (a1 := 0) (by omega) dM_fits_116 (by decide) (fun c_116 => ?_) (fun c_116 => ?_)
      · refine lv_iconst (v := 0) hx hb dM_fits_142 (by decide) ?_
        exact W.zret (v := 0) hx hb hr rfl (fun t ht hW => ⟨0, rfl, by first | (simp [mFit0, mFit1, mIs, bI, *]; done) | (subst_vars; simp [mFit0, mFit1, mIs, bI, *]; done) | (subst_vars; simp_all [mFit0, mFit1, mIs, bI]; done), ht⟩) (fun q h => by cases h) dM_fits_143
      · refine lv_iload_n hx hb dM_fits_119 rfl (lv_at hl 4 rfl) ?_
        refine lv_if_lt (tgt := 138) hx hb dM_fits_120 (by decide) (fun _ => ?_) (fun c9 => absurd (by decide) c9)
        refine lv_iconst (v := 1) hx hb dM_fits_138 (by decide) ?_
        refine lv_goto (tgt := 143) hx hb dM_fits_139 (by decide) ?_
        exact W.zret (v := 1) hx hb hr rfl (fun t ht hW => ⟨1, rfl, by first | (simp [mFit0, mFit1, mIs, bI, *]; done) | (subst_vars; simp [mFit0, mFit1, mIs, bI, *]; done) | (subst_vars; simp_all [mFit0, mFit1, mIs, bI]; done), ht⟩) (fun q h => by cases h) dM_fits_143
    by_cases t3 : (b 4) (st) = 3
    · refine lv_tableIn (off := 91) (tgt := 144) hx hb dM_fits_53 (by rw [t3]; decide) (by rw [t3]; decide) (by rw [t3]; decide) (by decide) ?_
      refine lv_iload hx hb dM_fits_144 (lv_at hl 0 rfl) ?_
      refine nr_if_eq (tgt := 169) hx hb (a1 := 0) (by omega) dM_fits_146 (by decide) (fun c_146 => ?_) (fun c_146 => ?_)
      · refine lv_iconst (v := 0) hx hb dM_fits_169 (by decide) ?_
        exact W.zret (v := 0) hx hb hr rfl (fun t ht hW => ⟨0, rfl, by first | (simp [mFit0, mFit1, mIs, bI, *]; done) | (subst_vars; simp [mFit0, mFit1, mIs, bI, *]; done) | (subst_vars; simp_all [mFit0, mFit1, mIs, bI]; done), ht⟩) (fun q h => by cases h) dM_fits_170
      · refine lv_aload_n hx hb dM_fits_149 rfl (lv_at hl 1 rfl) ?_
        refine va_get (D := (dC, dI)) (ci := 1) (v := .ref (r 3)) (C := "EventPatternsModel") (T := TM) (N := 16) hx hb hbw inM hown hK hP 0 rfl rfl 4 (by decide) (hbw _ kf_M_16) (fun _ h9 => h9) rfl dM_fits_150 ?_
        refine lv_iload_n hx hb dM_fits_153 rfl (lv_at hl 2 rfl) ?_
        refine nr_iald hx hb hK hP 3 0 rfl rfl (j := e1) (by omega) (by decide) dM_fits_154 ?_
        refine lv_aload_n hx hb dM_fits_155 rfl (lv_at hl 1 rfl) ?_
        refine va_get (D := (dC, dI)) (ci := 1) (v := .ref (r 3)) (C := "EventPatternsModel") (T := TM) (N := 16) hx hb hbw inM hown hK hP 0 rfl rfl 4 (by decide) (hbw _ kf_M_16) (fun _ h9 => h9) rfl dM_fits_156 ?_
        refine lv_iload hx hb dM_fits_159 (lv_at hl 5 rfl) ?_
        refine nr_iald hx hb hK hP 3 0 rfl rfl (j := fi) (by omega) (by decide) dM_fits_161 ?_
        refine lv_icmp_ne (tgt := 169) hx hb dM_fits_162 (by decide) (fun c_162 => ?_) (fun c_162 => ?_)
        · refine lv_iconst (v := 0) hx hb dM_fits_169 (by decide) ?_
          exact W.zret (v := 0) hx hb hr rfl (fun t ht hW => ⟨0, rfl, by first | (simp [mFit0, mFit1, mIs, bI, *]; done) | (subst_vars; simp [mFit0, mFit1, mIs, bI, *]; done) | (subst_vars; simp_all [mFit0, mFit1, mIs, bI]; done), ht⟩) (fun q h => by cases h) dM_fits_170
        · refine lv_iconst (v := 1) hx hb dM_fits_165 (by decide) ?_
          refine lv_goto (tgt := 170) hx hb dM_fits_166 (by decide) ?_
          exact W.zret (v := 1) hx hb hr rfl (fun t ht hW => ⟨1, rfl, by first | (simp [mFit0, mFit1, mIs, bI, *]; done) | (subst_vars; simp [mFit0, mFit1, mIs, bI, *]; done) | (subst_vars; simp_all [mFit0, mFit1, mIs, bI]; done), ht⟩) (fun q h => by cases h) dM_fits_170
    by_cases t4 : (b 4) (st) = 4
    · refine lv_tableIn (off := 118) (tgt := 171) hx hb dM_fits_53 (by rw [t4]; decide) (by rw [t4]; decide) (by rw [t4]; decide) (by decide) ?_
      refine lv_iload hx hb dM_fits_171 (lv_at hl 0 rfl) ?_
      refine nr_if_eq (tgt := 195) hx hb (a1 := 0) (by omega) dM_fits_173 (by decide) (fun c_173 => ?_) (fun c_173 => ?_)
      · refine lv_iconst (v := 0) hx hb dM_fits_195 (by decide) ?_
        exact W.zret (v := 0) hx hb hr rfl (fun t ht hW => ⟨0, rfl, by first | (simp [mFit0, mFit1, mIs, bI, *]; done) | (subst_vars; simp [mFit0, mFit1, mIs, bI, *]; done) | (subst_vars; simp_all [mFit0, mFit1, mIs, bI]; done), ht⟩) (fun q h => by cases h) dM_fits_196
      · refine lv_aload_n hx hb dM_fits_176 rfl (lv_at hl 1 rfl) ?_
        refine va_get (D := (dC, dI)) (ci := 1) (v := .ref (r 3)) (C := "EventPatternsModel") (T := TM) (N := 16) hx hb hbw inM hown hK hP 0 rfl rfl 4 (by decide) (hbw _ kf_M_16) (fun _ h9 => h9) rfl dM_fits_177 ?_
        refine lv_iload_n hx hb dM_fits_180 rfl (lv_at hl 2 rfl) ?_
        refine nr_iald hx hb hK hP 3 0 rfl rfl (j := e1) (by omega) (by decide) dM_fits_181 ?_
        refine lv_aload_n hx hb dM_fits_182 rfl (lv_at hl 1 rfl) ?_
        refine va_get (D := (dC, dI)) (ci := 1) (v := .ref (r 6)) (C := "EventPatternsModel") (T := TM) (N := 16) hx hb hbw inM hown hK hP 0 rfl rfl 10 (by decide) (hbw _ kf_M_25) (fun _ h9 => h9) rfl dM_fits_183 ?_
        refine lv_iload_n hx hb dM_fits_186 rfl (lv_at hl 3 rfl) ?_
        refine nr_iald hx hb hK hP 6 0 rfl rfl (j := st) (by omega) (by decide) dM_fits_187 ?_
        refine lv_icmp_lt (tgt := 195) hx hb dM_fits_188 (by decide) (fun c_188 => ?_) (fun c_188 => ?_)
        · refine lv_iconst (v := 0) hx hb dM_fits_195 (by decide) ?_
          exact W.zret (v := 0) hx hb hr rfl (fun t ht hW => ⟨0, rfl, by first | (simp [mFit0, mFit1, mIs, bI, *]; done) | (subst_vars; simp [mFit0, mFit1, mIs, bI, *]; done) | (subst_vars; simp_all [mFit0, mFit1, mIs, bI]; done), ht⟩) (fun q h => by cases h) dM_fits_196
        · refine lv_iconst (v := 1) hx hb dM_fits_191 (by decide) ?_
          refine lv_goto (tgt := 196) hx hb dM_fits_192 (by decide) ?_
          exact W.zret (v := 1) hx hb hr rfl (fun t ht hW => ⟨1, rfl, by first | (simp [mFit0, mFit1, mIs, bI, *]; done) | (subst_vars; simp [mFit0, mFit1, mIs, bI, *]; done) | (subst_vars; simp_all [mFit0, mFit1, mIs, bI]; done), ht⟩) (fun q h => by cases h) dM_fits_196
    have u1 := lv_neT t1 (show (1 : Int32).toInt = 1 from rfl)
    have u2 := lv_neT t2 (show (2 : Int32).toInt = 2 from rfl)
    have u3 := lv_neT t3 (show (3 : Int32).toInt = 3 from rfl)
    have u4 := lv_neT t4 (show (4 : Int32).toInt = 4 from rfl)
    refine lv_tableOut (tgt := 197) hx hb dM_fits_53 (by omega) (by decide) ?_
    refine lv_iload hx hb dM_fits_197 (lv_at hl 0 rfl) ?_
    exact W.zret (v := 0) hx hb hr rfl (fun t ht hW => ⟨0, rfl, by first | (simp [mFit0, mFit1, mIs, bI, *]; done) | (subst_vars; simp [mFit0, mFit1, mIs, bI, *]; done) | (subst_vars; simp_all [mFit0, mFit1, mIs, bI]; done), ht⟩) (fun q h => by cases h) dM_fits_199
  · refine lv_aload_n hx hb dM_fits_19 rfl (lv_at hl 0 rfl) ?_
    refine va_get (D := (dC, dI)) (ci := 1) (v := .ref (r 1)) (C := "EventPatternsModel") (T := TM) (N := 16) hx hb hbw inM hown hK hP 0 rfl rfl 2 (by decide) (hbw _ kf_M_7) (fun _ h9 => h9) rfl dM_fits_20 ?_
    refine lv_iload_n hx hb dM_fits_23 rfl (lv_at hl 1 rfl) ?_
    refine nr_iald hx hb hK hP 1 0 rfl rfl (j := e1) (by omega) (by decide) dM_fits_24 ?_
    refine lv_aload_n hx hb dM_fits_25 rfl (lv_at hl 0 rfl) ?_
    refine va_get (D := (dC, dI)) (ci := 1) (v := .ref (r 1)) (C := "EventPatternsModel") (T := TM) (N := 16) hx hb hbw inM hown hK hP 0 rfl rfl 2 (by decide) (hbw _ kf_M_7) (fun _ h9 => h9) rfl dM_fits_26 ?_
    refine lv_iload hx hb dM_fits_29 (lv_at hl 4 rfl) ?_
    refine nr_iald hx hb hK hP 1 0 rfl rfl (j := fi) (by omega) (by decide) dM_fits_31 ?_
    refine lv_isub hx hb dM_fits_32 ?_
    refine lv_aload_n hx hb dM_fits_33 rfl (lv_at hl 0 rfl) ?_
    refine va_get (D := (dC, dI)) (ci := 1) (v := .int (g 3)) (C := "EventPatternsModel") (T := TM) (N := 16) hx hb hbw inM hown hK hP 0 rfl rfl 6 (by decide) (hbw _ kf_M_60) (fun _ h9 => h9) rfl dM_fits_34 ?_
    refine lv_icmp_gt (tgt := 44) hx hb dM_fits_37 (by decide) (fun c_37 => ?_) (fun c_37 => ?_)
    · refine lv_iconst (v := 0) hx hb dM_fits_44 (by decide) ?_
      refine lv_istore (lv' := [(5, .int (0)), (0, .ref (r 0)), (1, .int (nI (e1))), (2, .int (nI (st))), (3, .int (-1)), (4, .int (nI (fi)))]) hx hb dM_fits_45 hl (by decide) rfl (fun ls hl => ?_)
      refine lv_aload_n hx hb dM_fits_47 rfl (lv_at hl 1 rfl) ?_
      refine va_get (D := (dC, dI)) (ci := 1) (v := .ref (r 5)) (C := "EventPatternsModel") (T := TM) (N := 16) hx hb hbw inM hown hK hP 0 rfl rfl 9 (by decide) (hbw _ kf_M_22) (fun _ h9 => h9) rfl dM_fits_48 ?_
      refine lv_iload_n hx hb dM_fits_51 rfl (lv_at hl 3 rfl) ?_
      refine nr_iald hx hb hK hP 5 0 rfl rfl (j := st) (by omega) (by decide) dM_fits_52 ?_
      by_cases t1 : (b 4) (st) = 1
      · refine lv_tableIn (off := 31) (tgt := 84) hx hb dM_fits_53 (by rw [t1]; decide) (by rw [t1]; decide) (by rw [t1]; decide) (by decide) ?_
        refine lv_iload hx hb dM_fits_84 (lv_at hl 0 rfl) ?_
        refine nr_if_eq (tgt := 112) hx hb (a1 := 0) (by omega) dM_fits_86 (by decide) (fun c_86 => ?_) (fun c_86 => ?_)
        · refine lv_iconst (v := 0) hx hb dM_fits_112 (by decide) ?_
          exact W.zret (v := 0) hx hb hr rfl (fun t ht hW => ⟨0, rfl, by first | (simp [mFit0, mFit1, mIs, bI, *]; done) | (subst_vars; simp [mFit0, mFit1, mIs, bI, *]; done) | (subst_vars; simp_all [mFit0, mFit1, mIs, bI]; done), ht⟩) (fun q h => by cases h) dM_fits_113
        · refine lv_iload_n hx hb dM_fits_89 rfl (lv_at hl 4 rfl) ?_
          refine lv_if_lt (tgt := 108) hx hb dM_fits_90 (by decide) (fun _ => ?_) (fun c9 => absurd (by decide) c9)
          refine lv_iconst (v := 1) hx hb dM_fits_108 (by decide) ?_
          refine lv_goto (tgt := 113) hx hb dM_fits_109 (by decide) ?_
          exact W.zret (v := 1) hx hb hr rfl (fun t ht hW => ⟨1, rfl, by first | (simp [mFit0, mFit1, mIs, bI, *]; done) | (subst_vars; simp [mFit0, mFit1, mIs, bI, *]; done) | (subst_vars; simp_all [mFit0, mFit1, mIs, bI]; done), ht⟩) (fun q h => by cases h) dM_fits_113
      by_cases t2 : (b 4) (st) = 2
      · refine lv_tableIn (off := 61) (tgt := 114) hx hb dM_fits_53 (by rw [t2]; decide) (by rw [t2]; decide) (by rw [t2]; decide) (by decide) ?_
        refine lv_iload hx hb dM_fits_114 (lv_at hl 0 rfl) ?_
        refine nr_if_eq (tgt := 142) hx hb (a1 := 0) (by omega) dM_fits_116 (by decide) (fun c_116 => ?_) (fun c_116 => ?_)
        · refine lv_iconst (v := 0) hx hb dM_fits_142 (by decide) ?_
          exact W.zret (v := 0) hx hb hr rfl (fun t ht hW => ⟨0, rfl, by first | (simp [mFit0, mFit1, mIs, bI, *]; done) | (subst_vars; simp [mFit0, mFit1, mIs, bI, *]; done) | (subst_vars; simp_all [mFit0, mFit1, mIs, bI]; done), ht⟩) (fun q h => by cases h) dM_fits_143
        · refine lv_iload_n hx hb dM_fits_119 rfl (lv_at hl 4 rfl) ?_
          refine lv_if_lt (tgt := 138) hx hb dM_fits_120 (by decide) (fun _ => ?_) (fun c9 => absurd (by decide) c9)
          refine lv_iconst (v := 1) hx hb dM_fits_138 (by decide) ?_
          refine lv_goto (tgt := 143) hx hb dM_fits_139 (by decide) ?_
          exact W.zret (v := 1) hx hb hr rfl (fun t ht hW => ⟨1, rfl, by first | (simp [mFit0, mFit1, mIs, bI, *]; done) | (subst_vars; simp [mFit0, mFit1, mIs, bI, *]; done) | (subst_vars; simp_all [mFit0, mFit1, mIs, bI]; done), ht⟩) (fun q h => by cases h) dM_fits_143
      by_cases t3 : (b 4) (st) = 3
      · refine lv_tableIn (off := 91) (tgt := 144) hx hb dM_fits_53 (by rw [t3]; decide) (by rw [t3]; decide) (by rw [t3]; decide) (by decide) ?_
        refine lv_iload hx hb dM_fits_144 (lv_at hl 0 rfl) ?_
        refine nr_if_eq (tgt := 169) hx hb (a1 := 0) (by omega) dM_fits_146 (by decide) (fun c_146 => ?_) (fun c_146 => ?_)
        · refine lv_iconst (v := 0) hx hb dM_fits_169 (by decide) ?_
          exact W.zret (v := 0) hx hb hr rfl (fun t ht hW => ⟨0, rfl, by first | (simp [mFit0, mFit1, mIs, bI, *]; done) | (subst_vars; simp [mFit0, mFit1, mIs, bI, *]; done) | (subst_vars; simp_all [mFit0, mFit1, mIs, bI]; done), ht⟩) (fun q h => by cases h) dM_fits_170
        · refine lv_aload_n hx hb dM_fits_149 rfl (lv_at hl 1 rfl) ?_
          refine va_get (D := (dC, dI)) (ci := 1) (v := .ref (r 3)) (C := "EventPatternsModel") (T := TM) (N := 16) hx hb hbw inM hown hK hP 0 rfl rfl 4 (by decide) (hbw _ kf_M_16) (fun _ h9 => h9) rfl dM_fits_150 ?_
          refine lv_iload_n hx hb dM_fits_153 rfl (lv_at hl 2 rfl) ?_
          refine nr_iald hx hb hK hP 3 0 rfl rfl (j := e1) (by omega) (by decide) dM_fits_154 ?_
          refine lv_aload_n hx hb dM_fits_155 rfl (lv_at hl 1 rfl) ?_
          refine va_get (D := (dC, dI)) (ci := 1) (v := .ref (r 3)) (C := "EventPatternsModel") (T := TM) (N := 16) hx hb hbw inM hown hK hP 0 rfl rfl 4 (by decide) (hbw _ kf_M_16) (fun _ h9 => h9) rfl dM_fits_156 ?_
          refine lv_iload hx hb dM_fits_159 (lv_at hl 5 rfl) ?_
          refine nr_iald hx hb hK hP 3 0 rfl rfl (j := fi) (by omega) (by decide) dM_fits_161 ?_
          refine lv_icmp_ne (tgt := 169) hx hb dM_fits_162 (by decide) (fun c_162 => ?_) (fun c_162 => ?_)
          · refine lv_iconst (v := 0) hx hb dM_fits_169 (by decide) ?_
            exact W.zret (v := 0) hx hb hr rfl (fun t ht hW => ⟨0, rfl, by first | (simp [mFit0, mFit1, mIs, bI, *]; done) | (subst_vars; simp [mFit0, mFit1, mIs, bI, *]; done) | (subst_vars; simp_all [mFit0, mFit1, mIs, bI]; done), ht⟩) (fun q h => by cases h) dM_fits_170
          · refine lv_iconst (v := 1) hx hb dM_fits_165 (by decide) ?_
            refine lv_goto (tgt := 170) hx hb dM_fits_166 (by decide) ?_
            exact W.zret (v := 1) hx hb hr rfl (fun t ht hW => ⟨1, rfl, by first | (simp [mFit0, mFit1, mIs, bI, *]; done) | (subst_vars; simp [mFit0, mFit1, mIs, bI, *]; done) | (subst_vars; simp_all [mFit0, mFit1, mIs, bI]; done), ht⟩) (fun q h => by cases h) dM_fits_170
      by_cases t4 : (b 4) (st) = 4
      · refine lv_tableIn (off := 118) (tgt := 171) hx hb dM_fits_53 (by rw [t4]; decide) (by rw [t4]; decide) (by rw [t4]; decide) (by decide) ?_
        refine lv_iload hx hb dM_fits_171 (lv_at hl 0 rfl) ?_
        refine nr_if_eq (tgt := 195) hx hb (a1 := 0) (by omega) dM_fits_173 (by decide) (fun c_173 => ?_) (fun c_173 => ?_)
        · refine lv_iconst (v := 0) hx hb dM_fits_195 (by decide) ?_
          exact W.zret (v := 0) hx hb hr rfl (fun t ht hW => ⟨0, rfl, by first | (simp [mFit0, mFit1, mIs, bI, *]; done) | (subst_vars; simp [mFit0, mFit1, mIs, bI, *]; done) | (subst_vars; simp_all [mFit0, mFit1, mIs, bI]; done), ht⟩) (fun q h => by cases h) dM_fits_196
        · refine lv_aload_n hx hb dM_fits_176 rfl (lv_at hl 1 rfl) ?_
          refine va_get (D := (dC, dI)) (ci := 1) (v := .ref (r 3)) (C := "EventPatternsModel") (T := TM) (N := 16) hx hb hbw inM hown hK hP 0 rfl rfl 4 (by decide) (hbw _ kf_M_16) (fun _ h9 => h9) rfl dM_fits_177 ?_
          refine lv_iload_n hx hb dM_fits_180 rfl (lv_at hl 2 rfl) ?_
          refine nr_iald hx hb hK hP 3 0 rfl rfl (j := e1) (by omega) (by decide) dM_fits_181 ?_
          refine lv_aload_n hx hb dM_fits_182 rfl (lv_at hl 1 rfl) ?_
          refine va_get (D := (dC, dI)) (ci := 1) (v := .ref (r 6)) (C := "EventPatternsModel") (T := TM) (N := 16) hx hb hbw inM hown hK hP 0 rfl rfl 10 (by decide) (hbw _ kf_M_25) (fun _ h9 => h9) rfl dM_fits_183 ?_
          refine lv_iload_n hx hb dM_fits_186 rfl (lv_at hl 3 rfl) ?_
          refine nr_iald hx hb hK hP 6 0 rfl rfl (j := st) (by omega) (by decide) dM_fits_187 ?_
          refine lv_icmp_lt (tgt := 195) hx hb dM_fits_188 (by decide) (fun c_188 => ?_) (fun c_188 => ?_)
          · refine lv_iconst (v := 0) hx hb dM_fits_195 (by decide) ?_
            exact W.zret (v := 0) hx hb hr rfl (fun t ht hW => ⟨0, rfl, by first | (simp [mFit0, mFit1, mIs, bI, *]; done) | (subst_vars; simp [mFit0, mFit1, mIs, bI, *]; done) | (subst_vars; simp_all [mFit0, mFit1, mIs, bI]; done), ht⟩) (fun q h => by cases h) dM_fits_196
          · refine lv_iconst (v := 1) hx hb dM_fits_191 (by decide) ?_
            refine lv_goto (tgt := 196) hx hb dM_fits_192 (by decide) ?_
            exact W.zret (v := 1) hx hb hr rfl (fun t ht hW => ⟨1, rfl, by first | (simp [mFit0, mFit1, mIs, bI, *]; done) | (subst_vars; simp [mFit0, mFit1, mIs, bI, *]; done) | (subst_vars; simp_all [mFit0, mFit1, mIs, bI]; done), ht⟩) (fun q h => by cases h) dM_fits_196
      have u1 := lv_neT t1 (show (1 : Int32).toInt = 1 from rfl)
      have u2 := lv_neT t2 (show (2 : Int32).toInt = 2 from rfl)
      have u3 := lv_neT t3 (show (3 : Int32).toInt = 3 from rfl)
      have u4 := lv_neT t4 (show (4 : Int32).toInt = 4 from rfl)
      refine lv_tableOut (tgt := 197) hx hb dM_fits_53 (by omega) (by decide) ?_
      refine lv_iload hx hb dM_fits_197 (lv_at hl 0 rfl) ?_
      exact W.zret (v := 0) hx hb hr rfl (fun t ht hW => ⟨0, rfl, by first | (simp [mFit0, mFit1, mIs, bI, *]; done) | (subst_vars; simp [mFit0, mFit1, mIs, bI, *]; done) | (subst_vars; simp_all [mFit0, mFit1, mIs, bI]; done), ht⟩) (fun q h => by cases h) dM_fits_199
    · refine lv_iconst (v := 1) hx hb dM_fits_40 (by decide) ?_
      refine lv_goto (tgt := 45) hx hb dM_fits_41 (by decide) ?_
      refine lv_istore (lv' := [(5, .int (1)), (0, .ref (r 0)), (1, .int (nI (e1))), (2, .int (nI (st))), (3, .int (-1)), (4, .int (nI (fi)))]) hx hb dM_fits_45 hl (by decide) rfl (fun ls hl => ?_)
      refine lv_aload_n hx hb dM_fits_47 rfl (lv_at hl 1 rfl) ?_
      refine va_get (D := (dC, dI)) (ci := 1) (v := .ref (r 5)) (C := "EventPatternsModel") (T := TM) (N := 16) hx hb hbw inM hown hK hP 0 rfl rfl 9 (by decide) (hbw _ kf_M_22) (fun _ h9 => h9) rfl dM_fits_48 ?_
      refine lv_iload_n hx hb dM_fits_51 rfl (lv_at hl 3 rfl) ?_
      refine nr_iald hx hb hK hP 5 0 rfl rfl (j := st) (by omega) (by decide) dM_fits_52 ?_
      by_cases t1 : (b 4) (st) = 1
      · refine lv_tableIn (off := 31) (tgt := 84) hx hb dM_fits_53 (by rw [t1]; decide) (by rw [t1]; decide) (by rw [t1]; decide) (by decide) ?_
        refine lv_iload hx hb dM_fits_84 (lv_at hl 0 rfl) ?_
        refine nr_if_eq (tgt := 112) hx hb (a1 := 1) (by omega) dM_fits_86 (by decide) (fun c_86 => ?_) (fun c_86 => ?_)
        · refine lv_iconst (v := 0) hx hb dM_fits_112 (by decide) ?_
          exact W.zret (v := 0) hx hb hr rfl (fun t ht hW => ⟨0, rfl, by first | (simp [mFit0, mFit1, mIs, bI, *]; done) | (subst_vars; simp [mFit0, mFit1, mIs, bI, *]; done) | (subst_vars; simp_all [mFit0, mFit1, mIs, bI]; done), ht⟩) (fun q h => by cases h) dM_fits_113
        · refine lv_iload_n hx hb dM_fits_89 rfl (lv_at hl 4 rfl) ?_
          refine lv_if_lt (tgt := 108) hx hb dM_fits_90 (by decide) (fun _ => ?_) (fun c9 => absurd (by decide) c9)
          refine lv_iconst (v := 1) hx hb dM_fits_108 (by decide) ?_
          refine lv_goto (tgt := 113) hx hb dM_fits_109 (by decide) ?_
          exact W.zret (v := 1) hx hb hr rfl (fun t ht hW => ⟨1, rfl, by first | (simp [mFit0, mFit1, mIs, bI, *]; done) | (subst_vars; simp [mFit0, mFit1, mIs, bI, *]; done) | (subst_vars; simp_all [mFit0, mFit1, mIs, bI]; done), ht⟩) (fun q h => by cases h) dM_fits_113
      by_cases t2 : (b 4) (st) = 2
      · refine lv_tableIn (off := 61) (tgt := 114) hx hb dM_fits_53 (by rw [t2]; decide) (by rw [t2]; decide) (by rw [t2]; decide) (by decide) ?_
        refine lv_iload hx hb dM_fits_114 (lv_at hl 0 rfl) ?_
        refine nr_if_eq (tgt := 142) hx hb (a1 := 1) (by omega) dM_fits_116 (by decide) (fun c_116 => ?_) (fun c_116 => ?_)
        · refine lv_iconst (v := 0) hx hb dM_fits_142 (by decide) ?_
          exact W.zret (v := 0) hx hb hr rfl (fun t ht hW => ⟨0, rfl, by first | (simp [mFit0, mFit1, mIs, bI, *]; done) | (subst_vars; simp [mFit0, mFit1, mIs, bI, *]; done) | (subst_vars; simp_all [mFit0, mFit1, mIs, bI]; done), ht⟩) (fun q h => by cases h) dM_fits_143
        · refine lv_iload_n hx hb dM_fits_119 rfl (lv_at hl 4 rfl) ?_
          refine lv_if_lt (tgt := 138) hx hb dM_fits_120 (by decide) (fun _ => ?_) (fun c9 => absurd (by decide) c9)
          refine lv_iconst (v := 1) hx hb dM_fits_138 (by decide) ?_
          refine lv_goto (tgt := 143) hx hb dM_fits_139 (by decide) ?_
          exact W.zret (v := 1) hx hb hr rfl (fun t ht hW => ⟨1, rfl, by first | (simp [mFit0, mFit1, mIs, bI, *]; done) | (subst_vars; simp [mFit0, mFit1, mIs, bI, *]; done) | (subst_vars; simp_all [mFit0, mFit1, mIs, bI]; done), ht⟩) (fun q h => by cases h) dM_fits_143
      by_cases t3 : (b 4) (st) = 3
      · refine lv_tableIn (off := 91) (tgt := 144) hx hb dM_fits_53 (by rw [t3]; decide) (by rw [t3]; decide) (by rw [t3]; decide) (by decide) ?_
        refine lv_iload hx hb dM_fits_144 (lv_at hl 0 rfl) ?_
        refine nr_if_eq (tgt := 169) hx hb (a1 := 1) (by omega) dM_fits_146 (by decide) (fun c_146 => ?_) (fun c_146 => ?_)
        · refine lv_iconst (v := 0) hx hb dM_fits_169 (by decide) ?_
          exact W.zret (v := 0) hx hb hr rfl (fun t ht hW => ⟨0, rfl, by first | (simp [mFit0, mFit1, mIs, bI, *]; done) | (subst_vars; simp [mFit0, mFit1, mIs, bI, *]; done) | (subst_vars; simp_all [mFit0, mFit1, mIs, bI]; done), ht⟩) (fun q h => by cases h) dM_fits_170
        · refine lv_aload_n hx hb dM_fits_149 rfl (lv_at hl 1 rfl) ?_
          refine va_get (D := (dC, dI)) (ci := 1) (v := .ref (r 3)) (C := "EventPatternsModel") (T := TM) (N := 16) hx hb hbw inM hown hK hP 0 rfl rfl 4 (by decide) (hbw _ kf_M_16) (fun _ h9 => h9) rfl dM_fits_150 ?_
          refine lv_iload_n hx hb dM_fits_153 rfl (lv_at hl 2 rfl) ?_
          refine nr_iald hx hb hK hP 3 0 rfl rfl (j := e1) (by omega) (by decide) dM_fits_154 ?_
          refine lv_aload_n hx hb dM_fits_155 rfl (lv_at hl 1 rfl) ?_
          refine va_get (D := (dC, dI)) (ci := 1) (v := .ref (r 3)) (C := "EventPatternsModel") (T := TM) (N := 16) hx hb hbw inM hown hK hP 0 rfl rfl 4 (by decide) (hbw _ kf_M_16) (fun _ h9 => h9) rfl dM_fits_156 ?_
          refine lv_iload hx hb dM_fits_159 (lv_at hl 5 rfl) ?_
          refine nr_iald hx hb hK hP 3 0 rfl rfl (j := fi) (by omega) (by decide) dM_fits_161 ?_
          refine lv_icmp_ne (tgt := 169) hx hb dM_fits_162 (by decide) (fun c_162 => ?_) (fun c_162 => ?_)
          · refine lv_iconst (v := 0) hx hb dM_fits_169 (by decide) ?_
            exact W.zret (v := 0) hx hb hr rfl (fun t ht hW => ⟨0, rfl, by first | (simp [mFit0, mFit1, mIs, bI, *]; done) | (subst_vars; simp [mFit0, mFit1, mIs, bI, *]; done) | (subst_vars; simp_all [mFit0, mFit1, mIs, bI]; done), ht⟩) (fun q h => by cases h) dM_fits_170
          · refine lv_iconst (v := 1) hx hb dM_fits_165 (by decide) ?_
            refine lv_goto (tgt := 170) hx hb dM_fits_166 (by decide) ?_
            exact W.zret (v := 1) hx hb hr rfl (fun t ht hW => ⟨1, rfl, by first | (simp [mFit0, mFit1, mIs, bI, *]; done) | (subst_vars; simp [mFit0, mFit1, mIs, bI, *]; done) | (subst_vars; simp_all [mFit0, mFit1, mIs, bI]; done), ht⟩) (fun q h => by cases h) dM_fits_170
      by_cases t4 : (b 4) (st) = 4
      · refine lv_tableIn (off := 118) (tgt := 171) hx hb dM_fits_53 (by rw [t4]; decide) (by rw [t4]; decide) (by rw [t4]; decide) (by decide) ?_
        refine lv_iload hx hb dM_fits_171 (lv_at hl 0 rfl) ?_
        refine nr_if_eq (tgt := 195) hx hb (a1 := 1) (by omega) dM_fits_173 (by decide) (fun c_173 => ?_) (fun c_173 => ?_)
        · refine lv_iconst (v := 0) hx hb dM_fits_195 (by decide) ?_
          exact W.zret (v := 0) hx hb hr rfl (fun t ht hW => ⟨0, rfl, by first | (simp [mFit0, mFit1, mIs, bI, *]; done) | (subst_vars; simp [mFit0, mFit1, mIs, bI, *]; done) | (subst_vars; simp_all [mFit0, mFit1, mIs, bI]; done), ht⟩) (fun q h => by cases h) dM_fits_196
        · refine lv_aload_n hx hb dM_fits_176 rfl (lv_at hl 1 rfl) ?_
          refine va_get (D := (dC, dI)) (ci := 1) (v := .ref (r 3)) (C := "EventPatternsModel") (T := TM) (N := 16) hx hb hbw inM hown hK hP 0 rfl rfl 4 (by decide) (hbw _ kf_M_16) (fun _ h9 => h9) rfl dM_fits_177 ?_
          refine lv_iload_n hx hb dM_fits_180 rfl (lv_at hl 2 rfl) ?_
          refine nr_iald hx hb hK hP 3 0 rfl rfl (j := e1) (by omega) (by decide) dM_fits_181 ?_
          refine lv_aload_n hx hb dM_fits_182 rfl (lv_at hl 1 rfl) ?_
          refine va_get (D := (dC, dI)) (ci := 1) (v := .ref (r 6)) (C := "EventPatternsModel") (T := TM) (N := 16) hx hb hbw inM hown hK hP 0 rfl rfl 10 (by decide) (hbw _ kf_M_25) (fun _ h9 => h9) rfl dM_fits_183 ?_
          refine lv_iload_n hx hb dM_fits_186 rfl (lv_at hl 3 rfl) ?_
          refine nr_iald hx hb hK hP 6 0 rfl rfl (j := st) (by omega) (by decide) dM_fits_187 ?_
          refine lv_icmp_lt (tgt := 195) hx hb dM_fits_188 (by decide) (fun c_188 => ?_) (fun c_188 => ?_)
          · refine lv_iconst (v := 0) hx hb dM_fits_195 (by decide) ?_
            exact W.zret (v := 0) hx hb hr rfl (fun t ht hW => ⟨0, rfl, by first | (simp [mFit0, mFit1, mIs, bI, *]; done) | (subst_vars; simp [mFit0, mFit1, mIs, bI, *]; done) | (subst_vars; simp_all [mFit0, mFit1, mIs, bI]; done), ht⟩) (fun q h => by cases h) dM_fits_196
          · refine lv_iconst (v := 1) hx hb dM_fits_191 (by decide) ?_
            refine lv_goto (tgt := 196) hx hb dM_fits_192 (by decide) ?_
            exact W.zret (v := 1) hx hb hr rfl (fun t ht hW => ⟨1, rfl, by first | (simp [mFit0, mFit1, mIs, bI, *]; done) | (subst_vars; simp [mFit0, mFit1, mIs, bI, *]; done) | (subst_vars; simp_all [mFit0, mFit1, mIs, bI]; done), ht⟩) (fun q h => by cases h) dM_fits_196
      have u1 := lv_neT t1 (show (1 : Int32).toInt = 1 from rfl)
      have u2 := lv_neT t2 (show (2 : Int32).toInt = 2 from rfl)
      have u3 := lv_neT t3 (show (3 : Int32).toInt = 3 from rfl)
      have u4 := lv_neT t4 (show (4 : Int32).toInt = 4 from rfl)
      refine lv_tableOut (tgt := 197) hx hb dM_fits_53 (by omega) (by decide) ?_
      refine lv_iload hx hb dM_fits_197 (lv_at hl 0 rfl) ?_
      exact W.zret (v := 1) hx hb hr rfl (fun t ht hW => ⟨1, rfl, by first | (simp [mFit0, mFit1, mIs, bI, *]; done) | (subst_vars; simp [mFit0, mFit1, mIs, bI, *]; done) | (subst_vars; simp_all [mFit0, mFit1, mIs, bI]; done), ht⟩) (fun q h => by cases h) dM_fits_199
set_option maxHeartbeats 4000000 in
set_option maxRecDepth 100000 in
/-- fits(e, s, before, first) -/
theorem tM_fits1 (l : Launch) (dC : Nat → ClassId) (dI : Nat → Nat → Nat) (r : Nat → Nat) (cI cZ cG : ClassId) (b : Nat → Nat → Int32) (g : Nat → Int32) (e1 st bf fi : Nat) (h1 : e1 < 400) (h2 : st < 5) (h3 : bf < 400) (h4 : fi < 400) : Met l yM_fits wM_fits ({ frames := 0, cells := 0, slots := 0, locals := 0 }) (va_Pc [.ref (r 0), .int (nI (e1)), .int (nI (st)), .int (nI (bf)), .int (nI (fi))] (fun U => va_P (dC, dI) cls2 (mw r cI cZ b g) U.heap ∧ va_K (dC, dI) cls2 (xt cI cZ cG) U)) (vp_Si (fun r0 => r0 = bI (mFit1 b g e1 st bf fi))) 0 0 (fun _ => False) := by
  refine Met.ofW (cc := cM_fits) (maxL := 6) (ret := (some .boolean)) (by decide) rfl ?_
  intro p e s m args below meth c s₁ B hml hv
  obtain ⟨rfl, hP, hK⟩ := hv
  have hx := B.exec
  have hb := B.bytes
  have hr := B.returns
  have hbw : ∀ w ∈ bw, w.before _ s = true := fun w h => atoms_spec (ws := wM_fits) B.pre w (List.mem_cons_of_mem _ h)
  have hown : s.vm.findClass "EventPatternsModel" = some m.cls := findClass_of_methodNamed B.named
  have hlocks := B.notSynchronized
  have hl := lv_entry ([.ref (r 0), .int (nI (e1)), .int (nI (st)), .int (nI (bf)), .int (nI (fi))]) (n := 6) (Nat.le_of_ble_eq_true rfl)
  rw [lg_entry_eq]
  generalize (lg_sl ([.ref (r 0), .int (nI (e1)), .int (nI (st)), .int (nI (bf)), .int (nI (fi))]) ++ List.replicate (6 - (lg_sl ([.ref (r 0), .int (nI (e1)), .int (nI (st)), .int (nI (bf)), .int (nI (fi))])).length) Slot.unset).toArray = ls at hl ⊢
  have hl : lv_has ls 6 [(0, .ref (r 0)), (1, .int (nI (e1))), (2, .int (nI (st))), (3, .int (nI (bf))), (4, .int (nI (fi)))] := hl
  refine lv_aload_n hx hb dM_fits_0 rfl (lv_at hl 0 rfl) ?_
  refine va_get (D := (dC, dI)) (ci := 1) (v := .ref (r 4)) (C := "EventPatternsModel") (T := TM) (N := 16) hx hb hbw inM hown hK hP 0 rfl rfl 8 (by decide) (hbw _ kf_M_19) (fun _ h9 => h9) rfl dM_fits_1 ?_
  refine lv_iload_n hx hb dM_fits_4 rfl (lv_at hl 2 rfl) ?_
  refine nr_iald hx hb hK hP 4 0 rfl rfl (j := st) (by omega) (by decide) dM_fits_5 ?_
  refine lv_aload_n hx hb dM_fits_6 rfl (lv_at hl 0 rfl) ?_
  refine va_get (D := (dC, dI)) (ci := 1) (v := .ref (r 2)) (C := "EventPatternsModel") (T := TM) (N := 16) hx hb hbw inM hown hK hP 0 rfl rfl 3 (by decide) (hbw _ kf_M_13) (fun _ h9 => h9) rfl dM_fits_7 ?_
  refine lv_iload_n hx hb dM_fits_10 rfl (lv_at hl 1 rfl) ?_
  refine nr_iald hx hb hK hP 2 0 rfl rfl (j := e1) (by omega) (by decide) dM_fits_11 ?_
  refine lv_ishr hx hb dM_fits_12 ?_
  refine lv_iconst (v := 1) hx hb dM_fits_13 (by decide) ?_
  refine lv_iand hx hb dM_fits_14 ?_
  refine lv_iconst (v := 1) hx hb dM_fits_15 (by decide) ?_
  refine lv_icmp_ne (tgt := 44) hx hb dM_fits_16 (by decide) (fun c_16 => ?_) (fun c_16 => ?_)
  · refine lv_iconst (v := 0) hx hb dM_fits_44 (by decide) ?_
    refine lv_istore (lv' := [(5, .int (0)), (0, .ref (r 0)), (1, .int (nI (e1))), (2, .int (nI (st))), (3, .int (nI (bf))), (4, .int (nI (fi)))]) hx hb dM_fits_45 hl (by decide) rfl (fun ls hl => ?_)
    refine lv_aload_n hx hb dM_fits_47 rfl (lv_at hl 1 rfl) ?_
    refine va_get (D := (dC, dI)) (ci := 1) (v := .ref (r 5)) (C := "EventPatternsModel") (T := TM) (N := 16) hx hb hbw inM hown hK hP 0 rfl rfl 9 (by decide) (hbw _ kf_M_22) (fun _ h9 => h9) rfl dM_fits_48 ?_
    refine lv_iload_n hx hb dM_fits_51 rfl (lv_at hl 3 rfl) ?_
    refine nr_iald hx hb hK hP 5 0 rfl rfl (j := st) (by omega) (by decide) dM_fits_52 ?_
    by_cases t1 : (b 4) (st) = 1
    · refine lv_tableIn (off := 31) (tgt := 84) hx hb dM_fits_53 (by rw [t1]; decide) (by rw [t1]; decide) (by rw [t1]; decide) (by decide) ?_
      refine lv_iload hx hb dM_fits_84 (lv_at hl 0 rfl) ?_
      refine nr_if_eq (tgt := 112) hx hb (a1 := 0) (by omega) dM_fits_86 (by decide) (fun c_86 => ?_) (fun c_86 => ?_)
      · refine lv_iconst (v := 0) hx hb dM_fits_112 (by decide) ?_
        exact W.zret (v := 0) hx hb hr rfl (fun t ht hW => ⟨0, rfl, by first | (simp [mFit0, mFit1, mIs, bI, *]; done) | (subst_vars; simp [mFit0, mFit1, mIs, bI, *]; done) | (subst_vars; simp_all [mFit0, mFit1, mIs, bI]; done), ht⟩) (fun q h => by cases h) dM_fits_113
      · refine lv_iload_n hx hb dM_fits_89 rfl (lv_at hl 4 rfl) ?_
        refine nr_if_lt (tgt := 108) hx hb (a1 := bf) (by omega) dM_fits_90 (by decide) (fun c9 => absurd c9 (by omega)) (fun _ => ?_)
        refine lv_aload_n hx hb dM_fits_93 rfl (lv_at hl 1 rfl) ?_
        refine va_get (D := (dC, dI)) (ci := 1) (v := .ref (r 3)) (C := "EventPatternsModel") (T := TM) (N := 16) hx hb hbw inM hown hK hP 0 rfl rfl 4 (by decide) (hbw _ kf_M_16) (fun _ h9 => h9) rfl dM_fits_94 ?_
        refine lv_iload_n hx hb dM_fits_97 rfl (lv_at hl 2 rfl) ?_
        refine nr_iald hx hb hK hP 3 0 rfl rfl (j := e1) (by omega) (by decide) dM_fits_98 ?_
        refine lv_aload_n hx hb dM_fits_99 rfl (lv_at hl 1 rfl) ?_
        refine va_get (D := (dC, dI)) (ci := 1) (v := .ref (r 3)) (C := "EventPatternsModel") (T := TM) (N := 16) hx hb hbw inM hown hK hP 0 rfl rfl 4 (by decide) (hbw _ kf_M_16) (fun _ h9 => h9) rfl dM_fits_100 ?_
        refine lv_iload_n hx hb dM_fits_103 rfl (lv_at hl 4 rfl) ?_
        refine nr_iald hx hb hK hP 3 0 rfl rfl (j := bf) (by omega) (by decide) dM_fits_104 ?_
        refine lv_icmp_le (tgt := 112) hx hb dM_fits_105 (by decide) (fun c_105 => ?_) (fun c_105 => ?_)
        · refine lv_iconst (v := 0) hx hb dM_fits_112 (by decide) ?_
          exact W.zret (v := 0) hx hb hr rfl (fun t ht hW => ⟨0, rfl, by first | (simp [mFit0, mFit1, mIs, bI, *]; done) | (subst_vars; simp [mFit0, mFit1, mIs, bI, *]; done) | (subst_vars; simp_all [mFit0, mFit1, mIs, bI]; done), ht⟩) (fun q h => by cases h) dM_fits_113
        · refine lv_iconst (v := 1) hx hb dM_fits_108 (by decide) ?_
          refine lv_goto (tgt := 113) hx hb dM_fits_109 (by decide) ?_
          exact W.zret (v := 1) hx hb hr rfl (fun t ht hW => ⟨1, rfl, by first | (simp [mFit0, mFit1, mIs, bI, *]; done) | (subst_vars; simp [mFit0, mFit1, mIs, bI, *]; done) | (subst_vars; simp_all [mFit0, mFit1, mIs, bI]; done), ht⟩) (fun q h => by cases h) dM_fits_113
    by_cases t2 : (b 4) (st) = 2
    · refine lv_tableIn (off := 61) (tgt := 114) hx hb dM_fits_53 (by rw [t2]; decide) (by rw [t2]; decide) (by rw [t2]; decide) (by decide) ?_
      refine lv_iload hx hb dM_fits_114 (lv_at hl 0 rfl) ?_
      refine nr_if_eq (tgt := 142) hx hb (a1 := 0) (by omega) dM_fits_116 (by decide) (fun c_116 => ?_) (fun c_116 => ?_)
      · refine lv_iconst (v := 0) hx hb dM_fits_142 (by decide) ?_
        exact W.zret (v := 0) hx hb hr rfl (fun t ht hW => ⟨0, rfl, by first | (simp [mFit0, mFit1, mIs, bI, *]; done) | (subst_vars; simp [mFit0, mFit1, mIs, bI, *]; done) | (subst_vars; simp_all [mFit0, mFit1, mIs, bI]; done), ht⟩) (fun q h => by cases h) dM_fits_143
      · refine lv_iload_n hx hb dM_fits_119 rfl (lv_at hl 4 rfl) ?_
        refine nr_if_lt (tgt := 138) hx hb (a1 := bf) (by omega) dM_fits_120 (by decide) (fun c9 => absurd c9 (by omega)) (fun _ => ?_)
        refine lv_aload_n hx hb dM_fits_123 rfl (lv_at hl 1 rfl) ?_
        refine va_get (D := (dC, dI)) (ci := 1) (v := .ref (r 3)) (C := "EventPatternsModel") (T := TM) (N := 16) hx hb hbw inM hown hK hP 0 rfl rfl 4 (by decide) (hbw _ kf_M_16) (fun _ h9 => h9) rfl dM_fits_124 ?_
        refine lv_iload_n hx hb dM_fits_127 rfl (lv_at hl 2 rfl) ?_
        refine nr_iald hx hb hK hP 3 0 rfl rfl (j := e1) (by omega) (by decide) dM_fits_128 ?_
        refine lv_aload_n hx hb dM_fits_129 rfl (lv_at hl 1 rfl) ?_
        refine va_get (D := (dC, dI)) (ci := 1) (v := .ref (r 3)) (C := "EventPatternsModel") (T := TM) (N := 16) hx hb hbw inM hown hK hP 0 rfl rfl 4 (by decide) (hbw _ kf_M_16) (fun _ h9 => h9) rfl dM_fits_130 ?_
        refine lv_iload_n hx hb dM_fits_133 rfl (lv_at hl 4 rfl) ?_
        refine nr_iald hx hb hK hP 3 0 rfl rfl (j := bf) (by omega) (by decide) dM_fits_134 ?_
        refine lv_icmp_ge (tgt := 142) hx hb dM_fits_135 (by decide) (fun c_135 => ?_) (fun c_135 => ?_)
        · refine lv_iconst (v := 0) hx hb dM_fits_142 (by decide) ?_
          exact W.zret (v := 0) hx hb hr rfl (fun t ht hW => ⟨0, rfl, by first | (simp [mFit0, mFit1, mIs, bI, *]; done) | (subst_vars; simp [mFit0, mFit1, mIs, bI, *]; done) | (subst_vars; simp_all [mFit0, mFit1, mIs, bI]; done), ht⟩) (fun q h => by cases h) dM_fits_143
        · refine lv_iconst (v := 1) hx hb dM_fits_138 (by decide) ?_
          refine lv_goto (tgt := 143) hx hb dM_fits_139 (by decide) ?_
          exact W.zret (v := 1) hx hb hr rfl (fun t ht hW => ⟨1, rfl, by first | (simp [mFit0, mFit1, mIs, bI, *]; done) | (subst_vars; simp [mFit0, mFit1, mIs, bI, *]; done) | (subst_vars; simp_all [mFit0, mFit1, mIs, bI]; done), ht⟩) (fun q h => by cases h) dM_fits_143
    by_cases t3 : (b 4) (st) = 3
    · refine lv_tableIn (off := 91) (tgt := 144) hx hb dM_fits_53 (by rw [t3]; decide) (by rw [t3]; decide) (by rw [t3]; decide) (by decide) ?_
      refine lv_iload hx hb dM_fits_144 (lv_at hl 0 rfl) ?_
      refine nr_if_eq (tgt := 169) hx hb (a1 := 0) (by omega) dM_fits_146 (by decide) (fun c_146 => ?_) (fun c_146 => ?_)
      · refine lv_iconst (v := 0) hx hb dM_fits_169 (by decide) ?_
        exact W.zret (v := 0) hx hb hr rfl (fun t ht hW => ⟨0, rfl, by first | (simp [mFit0, mFit1, mIs, bI, *]; done) | (subst_vars; simp [mFit0, mFit1, mIs, bI, *]; done) | (subst_vars; simp_all [mFit0, mFit1, mIs, bI]; done), ht⟩) (fun q h => by cases h) dM_fits_170
      · refine lv_aload_n hx hb dM_fits_149 rfl (lv_at hl 1 rfl) ?_
        refine va_get (D := (dC, dI)) (ci := 1) (v := .ref (r 3)) (C := "EventPatternsModel") (T := TM) (N := 16) hx hb hbw inM hown hK hP 0 rfl rfl 4 (by decide) (hbw _ kf_M_16) (fun _ h9 => h9) rfl dM_fits_150 ?_
        refine lv_iload_n hx hb dM_fits_153 rfl (lv_at hl 2 rfl) ?_
        refine nr_iald hx hb hK hP 3 0 rfl rfl (j := e1) (by omega) (by decide) dM_fits_154 ?_
        refine lv_aload_n hx hb dM_fits_155 rfl (lv_at hl 1 rfl) ?_
        refine va_get (D := (dC, dI)) (ci := 1) (v := .ref (r 3)) (C := "EventPatternsModel") (T := TM) (N := 16) hx hb hbw inM hown hK hP 0 rfl rfl 4 (by decide) (hbw _ kf_M_16) (fun _ h9 => h9) rfl dM_fits_156 ?_
        refine lv_iload hx hb dM_fits_159 (lv_at hl 5 rfl) ?_
        refine nr_iald hx hb hK hP 3 0 rfl rfl (j := fi) (by omega) (by decide) dM_fits_161 ?_
        refine lv_icmp_ne (tgt := 169) hx hb dM_fits_162 (by decide) (fun c_162 => ?_) (fun c_162 => ?_)
        · refine lv_iconst (v := 0) hx hb dM_fits_169 (by decide) ?_
          exact W.zret (v := 0) hx hb hr rfl (fun t ht hW => ⟨0, rfl, by first | (simp [mFit0, mFit1, mIs, bI, *]; done) | (subst_vars; simp [mFit0, mFit1, mIs, bI, *]; done) | (subst_vars; simp_all [mFit0, mFit1, mIs, bI]; done), ht⟩) (fun q h => by cases h) dM_fits_170
        · refine lv_iconst (v := 1) hx hb dM_fits_165 (by decide) ?_
          refine lv_goto (tgt := 170) hx hb dM_fits_166 (by decide) ?_
          exact W.zret (v := 1) hx hb hr rfl (fun t ht hW => ⟨1, rfl, by first | (simp [mFit0, mFit1, mIs, bI, *]; done) | (subst_vars; simp [mFit0, mFit1, mIs, bI, *]; done) | (subst_vars; simp_all [mFit0, mFit1, mIs, bI]; done), ht⟩) (fun q h => by cases h) dM_fits_170
    by_cases t4 : (b 4) (st) = 4
    · refine lv_tableIn (off := 118) (tgt := 171) hx hb dM_fits_53 (by rw [t4]; decide) (by rw [t4]; decide) (by rw [t4]; decide) (by decide) ?_
      refine lv_iload hx hb dM_fits_171 (lv_at hl 0 rfl) ?_
      refine nr_if_eq (tgt := 195) hx hb (a1 := 0) (by omega) dM_fits_173 (by decide) (fun c_173 => ?_) (fun c_173 => ?_)
      · refine lv_iconst (v := 0) hx hb dM_fits_195 (by decide) ?_
        exact W.zret (v := 0) hx hb hr rfl (fun t ht hW => ⟨0, rfl, by first | (simp [mFit0, mFit1, mIs, bI, *]; done) | (subst_vars; simp [mFit0, mFit1, mIs, bI, *]; done) | (subst_vars; simp_all [mFit0, mFit1, mIs, bI]; done), ht⟩) (fun q h => by cases h) dM_fits_196
      · refine lv_aload_n hx hb dM_fits_176 rfl (lv_at hl 1 rfl) ?_
        refine va_get (D := (dC, dI)) (ci := 1) (v := .ref (r 3)) (C := "EventPatternsModel") (T := TM) (N := 16) hx hb hbw inM hown hK hP 0 rfl rfl 4 (by decide) (hbw _ kf_M_16) (fun _ h9 => h9) rfl dM_fits_177 ?_
        refine lv_iload_n hx hb dM_fits_180 rfl (lv_at hl 2 rfl) ?_
        refine nr_iald hx hb hK hP 3 0 rfl rfl (j := e1) (by omega) (by decide) dM_fits_181 ?_
        refine lv_aload_n hx hb dM_fits_182 rfl (lv_at hl 1 rfl) ?_
        refine va_get (D := (dC, dI)) (ci := 1) (v := .ref (r 6)) (C := "EventPatternsModel") (T := TM) (N := 16) hx hb hbw inM hown hK hP 0 rfl rfl 10 (by decide) (hbw _ kf_M_25) (fun _ h9 => h9) rfl dM_fits_183 ?_
        refine lv_iload_n hx hb dM_fits_186 rfl (lv_at hl 3 rfl) ?_
        refine nr_iald hx hb hK hP 6 0 rfl rfl (j := st) (by omega) (by decide) dM_fits_187 ?_
        refine lv_icmp_lt (tgt := 195) hx hb dM_fits_188 (by decide) (fun c_188 => ?_) (fun c_188 => ?_)
        · refine lv_iconst (v := 0) hx hb dM_fits_195 (by decide) ?_
          exact W.zret (v := 0) hx hb hr rfl (fun t ht hW => ⟨0, rfl, by first | (simp [mFit0, mFit1, mIs, bI, *]; done) | (subst_vars; simp [mFit0, mFit1, mIs, bI, *]; done) | (subst_vars; simp_all [mFit0, mFit1, mIs, bI]; done), ht⟩) (fun q h => by cases h) dM_fits_196
        · refine lv_iconst (v := 1) hx hb dM_fits_191 (by decide) ?_
          refine lv_goto (tgt := 196) hx hb dM_fits_192 (by decide) ?_
          exact W.zret (v := 1) hx hb hr rfl (fun t ht hW => ⟨1, rfl, by first | (simp [mFit0, mFit1, mIs, bI, *]; done) | (subst_vars; simp [mFit0, mFit1, mIs, bI, *]; done) | (subst_vars; simp_all [mFit0, mFit1, mIs, bI]; done), ht⟩) (fun q h => by cases h) dM_fits_196
    have u1 := lv_neT t1 (show (1 : Int32).toInt = 1 from rfl)
    have u2 := lv_neT t2 (show (2 : Int32).toInt = 2 from rfl)
    have u3 := lv_neT t3 (show (3 : Int32).toInt = 3 from rfl)
    have u4 := lv_neT t4 (show (4 : Int32).toInt = 4 from rfl)
    refine lv_tableOut (tgt := 197) hx hb dM_fits_53 (by omega) (by decide) ?_
    refine lv_iload hx hb dM_fits_197 (lv_at hl 0 rfl) ?_
    exact W.zret (v := 0) hx hb hr rfl (fun t ht hW => ⟨0, rfl, by first | (simp [mFit0, mFit1, mIs, bI, *]; done) | (subst_vars; simp [mFit0, mFit1, mIs, bI, *]; done) | (subst_vars; simp_all [mFit0, mFit1, mIs, bI]; done), ht⟩) (fun q h => by cases h) dM_fits_199
  · refine lv_aload_n hx hb dM_fits_19 rfl (lv_at hl 0 rfl) ?_
    refine va_get (D := (dC, dI)) (ci := 1) (v := .ref (r 1)) (C := "EventPatternsModel") (T := TM) (N := 16) hx hb hbw inM hown hK hP 0 rfl rfl 2 (by decide) (hbw _ kf_M_7) (fun _ h9 => h9) rfl dM_fits_20 ?_
    refine lv_iload_n hx hb dM_fits_23 rfl (lv_at hl 1 rfl) ?_
    refine nr_iald hx hb hK hP 1 0 rfl rfl (j := e1) (by omega) (by decide) dM_fits_24 ?_
    refine lv_aload_n hx hb dM_fits_25 rfl (lv_at hl 0 rfl) ?_
    refine va_get (D := (dC, dI)) (ci := 1) (v := .ref (r 1)) (C := "EventPatternsModel") (T := TM) (N := 16) hx hb hbw inM hown hK hP 0 rfl rfl 2 (by decide) (hbw _ kf_M_7) (fun _ h9 => h9) rfl dM_fits_26 ?_
    refine lv_iload hx hb dM_fits_29 (lv_at hl 4 rfl) ?_
    refine nr_iald hx hb hK hP 1 0 rfl rfl (j := fi) (by omega) (by decide) dM_fits_31 ?_
    refine lv_isub hx hb dM_fits_32 ?_
    refine lv_aload_n hx hb dM_fits_33 rfl (lv_at hl 0 rfl) ?_
    refine va_get (D := (dC, dI)) (ci := 1) (v := .int (g 3)) (C := "EventPatternsModel") (T := TM) (N := 16) hx hb hbw inM hown hK hP 0 rfl rfl 6 (by decide) (hbw _ kf_M_60) (fun _ h9 => h9) rfl dM_fits_34 ?_
    refine lv_icmp_gt (tgt := 44) hx hb dM_fits_37 (by decide) (fun c_37 => ?_) (fun c_37 => ?_)
    · refine lv_iconst (v := 0) hx hb dM_fits_44 (by decide) ?_
      refine lv_istore (lv' := [(5, .int (0)), (0, .ref (r 0)), (1, .int (nI (e1))), (2, .int (nI (st))), (3, .int (nI (bf))), (4, .int (nI (fi)))]) hx hb dM_fits_45 hl (by decide) rfl (fun ls hl => ?_)
      refine lv_aload_n hx hb dM_fits_47 rfl (lv_at hl 1 rfl) ?_
      refine va_get (D := (dC, dI)) (ci := 1) (v := .ref (r 5)) (C := "EventPatternsModel") (T := TM) (N := 16) hx hb hbw inM hown hK hP 0 rfl rfl 9 (by decide) (hbw _ kf_M_22) (fun _ h9 => h9) rfl dM_fits_48 ?_
      refine lv_iload_n hx hb dM_fits_51 rfl (lv_at hl 3 rfl) ?_
      refine nr_iald hx hb hK hP 5 0 rfl rfl (j := st) (by omega) (by decide) dM_fits_52 ?_
      by_cases t1 : (b 4) (st) = 1
      · refine lv_tableIn (off := 31) (tgt := 84) hx hb dM_fits_53 (by rw [t1]; decide) (by rw [t1]; decide) (by rw [t1]; decide) (by decide) ?_
        refine lv_iload hx hb dM_fits_84 (lv_at hl 0 rfl) ?_
        refine nr_if_eq (tgt := 112) hx hb (a1 := 0) (by omega) dM_fits_86 (by decide) (fun c_86 => ?_) (fun c_86 => ?_)
        · refine lv_iconst (v := 0) hx hb dM_fits_112 (by decide) ?_
          exact W.zret (v := 0) hx hb hr rfl (fun t ht hW => ⟨0, rfl, by first | (simp [mFit0, mFit1, mIs, bI, *]; done) | (subst_vars; simp [mFit0, mFit1, mIs, bI, *]; done) | (subst_vars; simp_all [mFit0, mFit1, mIs, bI]; done), ht⟩) (fun q h => by cases h) dM_fits_113
        · refine lv_iload_n hx hb dM_fits_89 rfl (lv_at hl 4 rfl) ?_
          refine nr_if_lt (tgt := 108) hx hb (a1 := bf) (by omega) dM_fits_90 (by decide) (fun c9 => absurd c9 (by omega)) (fun _ => ?_)
          refine lv_aload_n hx hb dM_fits_93 rfl (lv_at hl 1 rfl) ?_
          refine va_get (D := (dC, dI)) (ci := 1) (v := .ref (r 3)) (C := "EventPatternsModel") (T := TM) (N := 16) hx hb hbw inM hown hK hP 0 rfl rfl 4 (by decide) (hbw _ kf_M_16) (fun _ h9 => h9) rfl dM_fits_94 ?_
          refine lv_iload_n hx hb dM_fits_97 rfl (lv_at hl 2 rfl) ?_
          refine nr_iald hx hb hK hP 3 0 rfl rfl (j := e1) (by omega) (by decide) dM_fits_98 ?_
          refine lv_aload_n hx hb dM_fits_99 rfl (lv_at hl 1 rfl) ?_
          refine va_get (D := (dC, dI)) (ci := 1) (v := .ref (r 3)) (C := "EventPatternsModel") (T := TM) (N := 16) hx hb hbw inM hown hK hP 0 rfl rfl 4 (by decide) (hbw _ kf_M_16) (fun _ h9 => h9) rfl dM_fits_100 ?_
          refine lv_iload_n hx hb dM_fits_103 rfl (lv_at hl 4 rfl) ?_
          refine nr_iald hx hb hK hP 3 0 rfl rfl (j := bf) (by omega) (by decide) dM_fits_104 ?_
          refine lv_icmp_le (tgt := 112) hx hb dM_fits_105 (by decide) (fun c_105 => ?_) (fun c_105 => ?_)
          · refine lv_iconst (v := 0) hx hb dM_fits_112 (by decide) ?_
            exact W.zret (v := 0) hx hb hr rfl (fun t ht hW => ⟨0, rfl, by first | (simp [mFit0, mFit1, mIs, bI, *]; done) | (subst_vars; simp [mFit0, mFit1, mIs, bI, *]; done) | (subst_vars; simp_all [mFit0, mFit1, mIs, bI]; done), ht⟩) (fun q h => by cases h) dM_fits_113
          · refine lv_iconst (v := 1) hx hb dM_fits_108 (by decide) ?_
            refine lv_goto (tgt := 113) hx hb dM_fits_109 (by decide) ?_
            exact W.zret (v := 1) hx hb hr rfl (fun t ht hW => ⟨1, rfl, by first | (simp [mFit0, mFit1, mIs, bI, *]; done) | (subst_vars; simp [mFit0, mFit1, mIs, bI, *]; done) | (subst_vars; simp_all [mFit0, mFit1, mIs, bI]; done), ht⟩) (fun q h => by cases h) dM_fits_113
      by_cases t2 : (b 4) (st) = 2
      · refine lv_tableIn (off := 61) (tgt := 114) hx hb dM_fits_53 (by rw [t2]; decide) (by rw [t2]; decide) (by rw [t2]; decide) (by decide) ?_
        refine lv_iload hx hb dM_fits_114 (lv_at hl 0 rfl) ?_
        refine nr_if_eq (tgt := 142) hx hb (a1 := 0) (by omega) dM_fits_116 (by decide) (fun c_116 => ?_) (fun c_116 => ?_)
        · refine lv_iconst (v := 0) hx hb dM_fits_142 (by decide) ?_
          exact W.zret (v := 0) hx hb hr rfl (fun t ht hW => ⟨0, rfl, by first | (simp [mFit0, mFit1, mIs, bI, *]; done) | (subst_vars; simp [mFit0, mFit1, mIs, bI, *]; done) | (subst_vars; simp_all [mFit0, mFit1, mIs, bI]; done), ht⟩) (fun q h => by cases h) dM_fits_143
        · refine lv_iload_n hx hb dM_fits_119 rfl (lv_at hl 4 rfl) ?_
          refine nr_if_lt (tgt := 138) hx hb (a1 := bf) (by omega) dM_fits_120 (by decide) (fun c9 => absurd c9 (by omega)) (fun _ => ?_)
          refine lv_aload_n hx hb dM_fits_123 rfl (lv_at hl 1 rfl) ?_
          refine va_get (D := (dC, dI)) (ci := 1) (v := .ref (r 3)) (C := "EventPatternsModel") (T := TM) (N := 16) hx hb hbw inM hown hK hP 0 rfl rfl 4 (by decide) (hbw _ kf_M_16) (fun _ h9 => h9) rfl dM_fits_124 ?_
          refine lv_iload_n hx hb dM_fits_127 rfl (lv_at hl 2 rfl) ?_
          refine nr_iald hx hb hK hP 3 0 rfl rfl (j := e1) (by omega) (by decide) dM_fits_128 ?_
          refine lv_aload_n hx hb dM_fits_129 rfl (lv_at hl 1 rfl) ?_
          refine va_get (D := (dC, dI)) (ci := 1) (v := .ref (r 3)) (C := "EventPatternsModel") (T := TM) (N := 16) hx hb hbw inM hown hK hP 0 rfl rfl 4 (by decide) (hbw _ kf_M_16) (fun _ h9 => h9) rfl dM_fits_130 ?_
          refine lv_iload_n hx hb dM_fits_133 rfl (lv_at hl 4 rfl) ?_
          refine nr_iald hx hb hK hP 3 0 rfl rfl (j := bf) (by omega) (by decide) dM_fits_134 ?_
          refine lv_icmp_ge (tgt := 142) hx hb dM_fits_135 (by decide) (fun c_135 => ?_) (fun c_135 => ?_)
          · refine lv_iconst (v := 0) hx hb dM_fits_142 (by decide) ?_
            exact W.zret (v := 0) hx hb hr rfl (fun t ht hW => ⟨0, rfl, by first | (simp [mFit0, mFit1, mIs, bI, *]; done) | (subst_vars; simp [mFit0, mFit1, mIs, bI, *]; done) | (subst_vars; simp_all [mFit0, mFit1, mIs, bI]; done), ht⟩) (fun q h => by cases h) dM_fits_143
          · refine lv_iconst (v := 1) hx hb dM_fits_138 (by decide) ?_
            refine lv_goto (tgt := 143) hx hb dM_fits_139 (by decide) ?_
            exact W.zret (v := 1) hx hb hr rfl (fun t ht hW => ⟨1, rfl, by first | (simp [mFit0, mFit1, mIs, bI, *]; done) | (subst_vars; simp [mFit0, mFit1, mIs, bI, *]; done) | (subst_vars; simp_all [mFit0, mFit1, mIs, bI]; done), ht⟩) (fun q h => by cases h) dM_fits_143
      by_cases t3 : (b 4) (st) = 3
      · refine lv_tableIn (off := 91) (tgt := 144) hx hb dM_fits_53 (by rw [t3]; decide) (by rw [t3]; decide) (by rw [t3]; decide) (by decide) ?_
        refine lv_iload hx hb dM_fits_144 (lv_at hl 0 rfl) ?_
        refine nr_if_eq (tgt := 169) hx hb (a1 := 0) (by omega) dM_fits_146 (by decide) (fun c_146 => ?_) (fun c_146 => ?_)
        · refine lv_iconst (v := 0) hx hb dM_fits_169 (by decide) ?_
          exact W.zret (v := 0) hx hb hr rfl (fun t ht hW => ⟨0, rfl, by first | (simp [mFit0, mFit1, mIs, bI, *]; done) | (subst_vars; simp [mFit0, mFit1, mIs, bI, *]; done) | (subst_vars; simp_all [mFit0, mFit1, mIs, bI]; done), ht⟩) (fun q h => by cases h) dM_fits_170
        · refine lv_aload_n hx hb dM_fits_149 rfl (lv_at hl 1 rfl) ?_
          refine va_get (D := (dC, dI)) (ci := 1) (v := .ref (r 3)) (C := "EventPatternsModel") (T := TM) (N := 16) hx hb hbw inM hown hK hP 0 rfl rfl 4 (by decide) (hbw _ kf_M_16) (fun _ h9 => h9) rfl dM_fits_150 ?_
          refine lv_iload_n hx hb dM_fits_153 rfl (lv_at hl 2 rfl) ?_
          refine nr_iald hx hb hK hP 3 0 rfl rfl (j := e1) (by omega) (by decide) dM_fits_154 ?_
          refine lv_aload_n hx hb dM_fits_155 rfl (lv_at hl 1 rfl) ?_
          refine va_get (D := (dC, dI)) (ci := 1) (v := .ref (r 3)) (C := "EventPatternsModel") (T := TM) (N := 16) hx hb hbw inM hown hK hP 0 rfl rfl 4 (by decide) (hbw _ kf_M_16) (fun _ h9 => h9) rfl dM_fits_156 ?_
          refine lv_iload hx hb dM_fits_159 (lv_at hl 5 rfl) ?_
          refine nr_iald hx hb hK hP 3 0 rfl rfl (j := fi) (by omega) (by decide) dM_fits_161 ?_
          refine lv_icmp_ne (tgt := 169) hx hb dM_fits_162 (by decide) (fun c_162 => ?_) (fun c_162 => ?_)
          · refine lv_iconst (v := 0) hx hb dM_fits_169 (by decide) ?_
            exact W.zret (v := 0) hx hb hr rfl (fun t ht hW => ⟨0, rfl, by first | (simp [mFit0, mFit1, mIs, bI, *]; done) | (subst_vars; simp [mFit0, mFit1, mIs, bI, *]; done) | (subst_vars; simp_all [mFit0, mFit1, mIs, bI]; done), ht⟩) (fun q h => by cases h) dM_fits_170
          · refine lv_iconst (v := 1) hx hb dM_fits_165 (by decide) ?_
            refine lv_goto (tgt := 170) hx hb dM_fits_166 (by decide) ?_
            exact W.zret (v := 1) hx hb hr rfl (fun t ht hW => ⟨1, rfl, by first | (simp [mFit0, mFit1, mIs, bI, *]; done) | (subst_vars; simp [mFit0, mFit1, mIs, bI, *]; done) | (subst_vars; simp_all [mFit0, mFit1, mIs, bI]; done), ht⟩) (fun q h => by cases h) dM_fits_170
      by_cases t4 : (b 4) (st) = 4
      · refine lv_tableIn (off := 118) (tgt := 171) hx hb dM_fits_53 (by rw [t4]; decide) (by rw [t4]; decide) (by rw [t4]; decide) (by decide) ?_
        refine lv_iload hx hb dM_fits_171 (lv_at hl 0 rfl) ?_
        refine nr_if_eq (tgt := 195) hx hb (a1 := 0) (by omega) dM_fits_173 (by decide) (fun c_173 => ?_) (fun c_173 => ?_)
        · refine lv_iconst (v := 0) hx hb dM_fits_195 (by decide) ?_
          exact W.zret (v := 0) hx hb hr rfl (fun t ht hW => ⟨0, rfl, by first | (simp [mFit0, mFit1, mIs, bI, *]; done) | (subst_vars; simp [mFit0, mFit1, mIs, bI, *]; done) | (subst_vars; simp_all [mFit0, mFit1, mIs, bI]; done), ht⟩) (fun q h => by cases h) dM_fits_196
        · refine lv_aload_n hx hb dM_fits_176 rfl (lv_at hl 1 rfl) ?_
          refine va_get (D := (dC, dI)) (ci := 1) (v := .ref (r 3)) (C := "EventPatternsModel") (T := TM) (N := 16) hx hb hbw inM hown hK hP 0 rfl rfl 4 (by decide) (hbw _ kf_M_16) (fun _ h9 => h9) rfl dM_fits_177 ?_
          refine lv_iload_n hx hb dM_fits_180 rfl (lv_at hl 2 rfl) ?_
          refine nr_iald hx hb hK hP 3 0 rfl rfl (j := e1) (by omega) (by decide) dM_fits_181 ?_
          refine lv_aload_n hx hb dM_fits_182 rfl (lv_at hl 1 rfl) ?_
          refine va_get (D := (dC, dI)) (ci := 1) (v := .ref (r 6)) (C := "EventPatternsModel") (T := TM) (N := 16) hx hb hbw inM hown hK hP 0 rfl rfl 10 (by decide) (hbw _ kf_M_25) (fun _ h9 => h9) rfl dM_fits_183 ?_
          refine lv_iload_n hx hb dM_fits_186 rfl (lv_at hl 3 rfl) ?_
          refine nr_iald hx hb hK hP 6 0 rfl rfl (j := st) (by omega) (by decide) dM_fits_187 ?_
          refine lv_icmp_lt (tgt := 195) hx hb dM_fits_188 (by decide) (fun c_188 => ?_) (fun c_188 => ?_)
          · refine lv_iconst (v := 0) hx hb dM_fits_195 (by decide) ?_
            exact W.zret (v := 0) hx hb hr rfl (fun t ht hW => ⟨0, rfl, by first | (simp [mFit0, mFit1, mIs, bI, *]; done) | (subst_vars; simp [mFit0, mFit1, mIs, bI, *]; done) | (subst_vars; simp_all [mFit0, mFit1, mIs, bI]; done), ht⟩) (fun q h => by cases h) dM_fits_196
          · refine lv_iconst (v := 1) hx hb dM_fits_191 (by decide) ?_
            refine lv_goto (tgt := 196) hx hb dM_fits_192 (by decide) ?_
            exact W.zret (v := 1) hx hb hr rfl (fun t ht hW => ⟨1, rfl, by first | (simp [mFit0, mFit1, mIs, bI, *]; done) | (subst_vars; simp [mFit0, mFit1, mIs, bI, *]; done) | (subst_vars; simp_all [mFit0, mFit1, mIs, bI]; done), ht⟩) (fun q h => by cases h) dM_fits_196
      have u1 := lv_neT t1 (show (1 : Int32).toInt = 1 from rfl)
      have u2 := lv_neT t2 (show (2 : Int32).toInt = 2 from rfl)
      have u3 := lv_neT t3 (show (3 : Int32).toInt = 3 from rfl)
      have u4 := lv_neT t4 (show (4 : Int32).toInt = 4 from rfl)
      refine lv_tableOut (tgt := 197) hx hb dM_fits_53 (by omega) (by decide) ?_
      refine lv_iload hx hb dM_fits_197 (lv_at hl 0 rfl) ?_
      exact W.zret (v := 0) hx hb hr rfl (fun t ht hW => ⟨0, rfl, by first | (simp [mFit0, mFit1, mIs, bI, *]; done) | (subst_vars; simp [mFit0, mFit1, mIs, bI, *]; done) | (subst_vars; simp_all [mFit0, mFit1, mIs, bI]; done), ht⟩) (fun q h => by cases h) dM_fits_199
    · refine lv_iconst (v := 1) hx hb dM_fits_40 (by decide) ?_
      refine lv_goto (tgt := 45) hx hb dM_fits_41 (by decide) ?_
      refine lv_istore (lv' := [(5, .int (1)), (0, .ref (r 0)), (1, .int (nI (e1))), (2, .int (nI (st))), (3, .int (nI (bf))), (4, .int (nI (fi)))]) hx hb dM_fits_45 hl (by decide) rfl (fun ls hl => ?_)
      refine lv_aload_n hx hb dM_fits_47 rfl (lv_at hl 1 rfl) ?_
      refine va_get (D := (dC, dI)) (ci := 1) (v := .ref (r 5)) (C := "EventPatternsModel") (T := TM) (N := 16) hx hb hbw inM hown hK hP 0 rfl rfl 9 (by decide) (hbw _ kf_M_22) (fun _ h9 => h9) rfl dM_fits_48 ?_
      refine lv_iload_n hx hb dM_fits_51 rfl (lv_at hl 3 rfl) ?_
      refine nr_iald hx hb hK hP 5 0 rfl rfl (j := st) (by omega) (by decide) dM_fits_52 ?_
      by_cases t1 : (b 4) (st) = 1
      · refine lv_tableIn (off := 31) (tgt := 84) hx hb dM_fits_53 (by rw [t1]; decide) (by rw [t1]; decide) (by rw [t1]; decide) (by decide) ?_
        refine lv_iload hx hb dM_fits_84 (lv_at hl 0 rfl) ?_
        refine nr_if_eq (tgt := 112) hx hb (a1 := 1) (by omega) dM_fits_86 (by decide) (fun c_86 => ?_) (fun c_86 => ?_)
        · refine lv_iconst (v := 0) hx hb dM_fits_112 (by decide) ?_
          exact W.zret (v := 0) hx hb hr rfl (fun t ht hW => ⟨0, rfl, by first | (simp [mFit0, mFit1, mIs, bI, *]; done) | (subst_vars; simp [mFit0, mFit1, mIs, bI, *]; done) | (subst_vars; simp_all [mFit0, mFit1, mIs, bI]; done), ht⟩) (fun q h => by cases h) dM_fits_113
        · refine lv_iload_n hx hb dM_fits_89 rfl (lv_at hl 4 rfl) ?_
          refine nr_if_lt (tgt := 108) hx hb (a1 := bf) (by omega) dM_fits_90 (by decide) (fun c9 => absurd c9 (by omega)) (fun _ => ?_)
          refine lv_aload_n hx hb dM_fits_93 rfl (lv_at hl 1 rfl) ?_
          refine va_get (D := (dC, dI)) (ci := 1) (v := .ref (r 3)) (C := "EventPatternsModel") (T := TM) (N := 16) hx hb hbw inM hown hK hP 0 rfl rfl 4 (by decide) (hbw _ kf_M_16) (fun _ h9 => h9) rfl dM_fits_94 ?_
          refine lv_iload_n hx hb dM_fits_97 rfl (lv_at hl 2 rfl) ?_
          refine nr_iald hx hb hK hP 3 0 rfl rfl (j := e1) (by omega) (by decide) dM_fits_98 ?_
          refine lv_aload_n hx hb dM_fits_99 rfl (lv_at hl 1 rfl) ?_
          refine va_get (D := (dC, dI)) (ci := 1) (v := .ref (r 3)) (C := "EventPatternsModel") (T := TM) (N := 16) hx hb hbw inM hown hK hP 0 rfl rfl 4 (by decide) (hbw _ kf_M_16) (fun _ h9 => h9) rfl dM_fits_100 ?_
          refine lv_iload_n hx hb dM_fits_103 rfl (lv_at hl 4 rfl) ?_
          refine nr_iald hx hb hK hP 3 0 rfl rfl (j := bf) (by omega) (by decide) dM_fits_104 ?_
          refine lv_icmp_le (tgt := 112) hx hb dM_fits_105 (by decide) (fun c_105 => ?_) (fun c_105 => ?_)
          · refine lv_iconst (v := 0) hx hb dM_fits_112 (by decide) ?_
            exact W.zret (v := 0) hx hb hr rfl (fun t ht hW => ⟨0, rfl, by first | (simp [mFit0, mFit1, mIs, bI, *]; done) | (subst_vars; simp [mFit0, mFit1, mIs, bI, *]; done) | (subst_vars; simp_all [mFit0, mFit1, mIs, bI]; done), ht⟩) (fun q h => by cases h) dM_fits_113
          · refine lv_iconst (v := 1) hx hb dM_fits_108 (by decide) ?_
            refine lv_goto (tgt := 113) hx hb dM_fits_109 (by decide) ?_
            exact W.zret (v := 1) hx hb hr rfl (fun t ht hW => ⟨1, rfl, by first | (simp [mFit0, mFit1, mIs, bI, *]; done) | (subst_vars; simp [mFit0, mFit1, mIs, bI, *]; done) | (subst_vars; simp_all [mFit0, mFit1, mIs, bI]; done), ht⟩) (fun q h => by cases h) dM_fits_113
      by_cases t2 : (b 4) (st) = 2
      · refine lv_tableIn (off := 61) (tgt := 114) hx hb dM_fits_53 (by rw [t2]; decide) (by rw [t2]; decide) (by rw [t2]; decide) (by decide) ?_
        refine lv_iload hx hb dM_fits_114 (lv_at hl 0 rfl) ?_
        refine nr_if_eq (tgt := 142) hx hb (a1 := 1) (by omega) dM_fits_116 (by decide) (fun c_116 => ?_) (fun c_116 => ?_)
        · refine lv_iconst (v := 0) hx hb dM_fits_142 (by decide) ?_
          exact W.zret (v := 0) hx hb hr rfl (fun t ht hW => ⟨0, rfl, by first | (simp [mFit0, mFit1, mIs, bI, *]; done) | (subst_vars; simp [mFit0, mFit1, mIs, bI, *]; done) | (subst_vars; simp_all [mFit0, mFit1, mIs, bI]; done), ht⟩) (fun q h => by cases h) dM_fits_143
        · refine lv_iload_n hx hb dM_fits_119 rfl (lv_at hl 4 rfl) ?_
          refine nr_if_lt (tgt := 138) hx hb (a1 := bf) (by omega) dM_fits_120 (by decide) (fun c9 => absurd c9 (by omega)) (fun _ => ?_)
          refine lv_aload_n hx hb dM_fits_123 rfl (lv_at hl 1 rfl) ?_
          refine va_get (D := (dC, dI)) (ci := 1) (v := .ref (r 3)) (C := "EventPatternsModel") (T := TM) (N := 16) hx hb hbw inM hown hK hP 0 rfl rfl 4 (by decide) (hbw _ kf_M_16) (fun _ h9 => h9) rfl dM_fits_124 ?_
          refine lv_iload_n hx hb dM_fits_127 rfl (lv_at hl 2 rfl) ?_
          refine nr_iald hx hb hK hP 3 0 rfl rfl (j := e1) (by omega) (by decide) dM_fits_128 ?_
          refine lv_aload_n hx hb dM_fits_129 rfl (lv_at hl 1 rfl) ?_
          refine va_get (D := (dC, dI)) (ci := 1) (v := .ref (r 3)) (C := "EventPatternsModel") (T := TM) (N := 16) hx hb hbw inM hown hK hP 0 rfl rfl 4 (by decide) (hbw _ kf_M_16) (fun _ h9 => h9) rfl dM_fits_130 ?_
          refine lv_iload_n hx hb dM_fits_133 rfl (lv_at hl 4 rfl) ?_
          refine nr_iald hx hb hK hP 3 0 rfl rfl (j := bf) (by omega) (by decide) dM_fits_134 ?_
          refine lv_icmp_ge (tgt := 142) hx hb dM_fits_135 (by decide) (fun c_135 => ?_) (fun c_135 => ?_)
          · refine lv_iconst (v := 0) hx hb dM_fits_142 (by decide) ?_
            exact W.zret (v := 0) hx hb hr rfl (fun t ht hW => ⟨0, rfl, by first | (simp [mFit0, mFit1, mIs, bI, *]; done) | (subst_vars; simp [mFit0, mFit1, mIs, bI, *]; done) | (subst_vars; simp_all [mFit0, mFit1, mIs, bI]; done), ht⟩) (fun q h => by cases h) dM_fits_143
          · refine lv_iconst (v := 1) hx hb dM_fits_138 (by decide) ?_
            refine lv_goto (tgt := 143) hx hb dM_fits_139 (by decide) ?_
            exact W.zret (v := 1) hx hb hr rfl (fun t ht hW => ⟨1, rfl, by first | (simp [mFit0, mFit1, mIs, bI, *]; done) | (subst_vars; simp [mFit0, mFit1, mIs, bI, *]; done) | (subst_vars; simp_all [mFit0, mFit1, mIs, bI]; done), ht⟩) (fun q h => by cases h) dM_fits_143
      by_cases t3 : (b 4) (st) = 3
      · refine lv_tableIn (off := 91) (tgt := 144) hx hb dM_fits_53 (by rw [t3]; decide) (by rw [t3]; decide) (by rw [t3]; decide) (by decide) ?_
        refine lv_iload hx hb dM_fits_144 (lv_at hl 0 rfl) ?_
        refine nr_if_eq (tgt := 169) hx hb (a1 := 1) (by omega) dM_fits_146 (by decide) (fun c_146 => ?_) (fun c_146 => ?_)
        · refine lv_iconst (v := 0) hx hb dM_fits_169 (by decide) ?_
          exact W.zret (v := 0) hx hb hr rfl (fun t ht hW => ⟨0, rfl, by first | (simp [mFit0, mFit1, mIs, bI, *]; done) | (subst_vars; simp [mFit0, mFit1, mIs, bI, *]; done) | (subst_vars; simp_all [mFit0, mFit1, mIs, bI]; done), ht⟩) (fun q h => by cases h) dM_fits_170
        · refine lv_aload_n hx hb dM_fits_149 rfl (lv_at hl 1 rfl) ?_
          refine va_get (D := (dC, dI)) (ci := 1) (v := .ref (r 3)) (C := "EventPatternsModel") (T := TM) (N := 16) hx hb hbw inM hown hK hP 0 rfl rfl 4 (by decide) (hbw _ kf_M_16) (fun _ h9 => h9) rfl dM_fits_150 ?_
          refine lv_iload_n hx hb dM_fits_153 rfl (lv_at hl 2 rfl) ?_
          refine nr_iald hx hb hK hP 3 0 rfl rfl (j := e1) (by omega) (by decide) dM_fits_154 ?_
          refine lv_aload_n hx hb dM_fits_155 rfl (lv_at hl 1 rfl) ?_
          refine va_get (D := (dC, dI)) (ci := 1) (v := .ref (r 3)) (C := "EventPatternsModel") (T := TM) (N := 16) hx hb hbw inM hown hK hP 0 rfl rfl 4 (by decide) (hbw _ kf_M_16) (fun _ h9 => h9) rfl dM_fits_156 ?_
          refine lv_iload hx hb dM_fits_159 (lv_at hl 5 rfl) ?_
          refine nr_iald hx hb hK hP 3 0 rfl rfl (j := fi) (by omega) (by decide) dM_fits_161 ?_
          refine lv_icmp_ne (tgt := 169) hx hb dM_fits_162 (by decide) (fun c_162 => ?_) (fun c_162 => ?_)
          · refine lv_iconst (v := 0) hx hb dM_fits_169 (by decide) ?_
            exact W.zret (v := 0) hx hb hr rfl (fun t ht hW => ⟨0, rfl, by first | (simp [mFit0, mFit1, mIs, bI, *]; done) | (subst_vars; simp [mFit0, mFit1, mIs, bI, *]; done) | (subst_vars; simp_all [mFit0, mFit1, mIs, bI]; done), ht⟩) (fun q h => by cases h) dM_fits_170
          · refine lv_iconst (v := 1) hx hb dM_fits_165 (by decide) ?_
            refine lv_goto (tgt := 170) hx hb dM_fits_166 (by decide) ?_
            exact W.zret (v := 1) hx hb hr rfl (fun t ht hW => ⟨1, rfl, by first | (simp [mFit0, mFit1, mIs, bI, *]; done) | (subst_vars; simp [mFit0, mFit1, mIs, bI, *]; done) | (subst_vars; simp_all [mFit0, mFit1, mIs, bI]; done), ht⟩) (fun q h => by cases h) dM_fits_170
      by_cases t4 : (b 4) (st) = 4
      · refine lv_tableIn (off := 118) (tgt := 171) hx hb dM_fits_53 (by rw [t4]; decide) (by rw [t4]; decide) (by rw [t4]; decide) (by decide) ?_
        refine lv_iload hx hb dM_fits_171 (lv_at hl 0 rfl) ?_
        refine nr_if_eq (tgt := 195) hx hb (a1 := 1) (by omega) dM_fits_173 (by decide) (fun c_173 => ?_) (fun c_173 => ?_)
        · refine lv_iconst (v := 0) hx hb dM_fits_195 (by decide) ?_
          exact W.zret (v := 0) hx hb hr rfl (fun t ht hW => ⟨0, rfl, by first | (simp [mFit0, mFit1, mIs, bI, *]; done) | (subst_vars; simp [mFit0, mFit1, mIs, bI, *]; done) | (subst_vars; simp_all [mFit0, mFit1, mIs, bI]; done), ht⟩) (fun q h => by cases h) dM_fits_196
        · refine lv_aload_n hx hb dM_fits_176 rfl (lv_at hl 1 rfl) ?_
          refine va_get (D := (dC, dI)) (ci := 1) (v := .ref (r 3)) (C := "EventPatternsModel") (T := TM) (N := 16) hx hb hbw inM hown hK hP 0 rfl rfl 4 (by decide) (hbw _ kf_M_16) (fun _ h9 => h9) rfl dM_fits_177 ?_
          refine lv_iload_n hx hb dM_fits_180 rfl (lv_at hl 2 rfl) ?_
          refine nr_iald hx hb hK hP 3 0 rfl rfl (j := e1) (by omega) (by decide) dM_fits_181 ?_
          refine lv_aload_n hx hb dM_fits_182 rfl (lv_at hl 1 rfl) ?_
          refine va_get (D := (dC, dI)) (ci := 1) (v := .ref (r 6)) (C := "EventPatternsModel") (T := TM) (N := 16) hx hb hbw inM hown hK hP 0 rfl rfl 10 (by decide) (hbw _ kf_M_25) (fun _ h9 => h9) rfl dM_fits_183 ?_
          refine lv_iload_n hx hb dM_fits_186 rfl (lv_at hl 3 rfl) ?_
          refine nr_iald hx hb hK hP 6 0 rfl rfl (j := st) (by omega) (by decide) dM_fits_187 ?_
          refine lv_icmp_lt (tgt := 195) hx hb dM_fits_188 (by decide) (fun c_188 => ?_) (fun c_188 => ?_)
          · refine lv_iconst (v := 0) hx hb dM_fits_195 (by decide) ?_
            exact W.zret (v := 0) hx hb hr rfl (fun t ht hW => ⟨0, rfl, by first | (simp [mFit0, mFit1, mIs, bI, *]; done) | (subst_vars; simp [mFit0, mFit1, mIs, bI, *]; done) | (subst_vars; simp_all [mFit0, mFit1, mIs, bI]; done), ht⟩) (fun q h => by cases h) dM_fits_196
          · refine lv_iconst (v := 1) hx hb dM_fits_191 (by decide) ?_
            refine lv_goto (tgt := 196) hx hb dM_fits_192 (by decide) ?_
            exact W.zret (v := 1) hx hb hr rfl (fun t ht hW => ⟨1, rfl, by first | (simp [mFit0, mFit1, mIs, bI, *]; done) | (subst_vars; simp [mFit0, mFit1, mIs, bI, *]; done) | (subst_vars; simp_all [mFit0, mFit1, mIs, bI]; done), ht⟩) (fun q h => by cases h) dM_fits_196
      have u1 := lv_neT t1 (show (1 : Int32).toInt = 1 from rfl)
      have u2 := lv_neT t2 (show (2 : Int32).toInt = 2 from rfl)
      have u3 := lv_neT t3 (show (3 : Int32).toInt = 3 from rfl)
      have u4 := lv_neT t4 (show (4 : Int32).toInt = 4 from rfl)
      refine lv_tableOut (tgt := 197) hx hb dM_fits_53 (by omega) (by decide) ?_
      refine lv_iload hx hb dM_fits_197 (lv_at hl 0 rfl) ?_
      exact W.zret (v := 1) hx hb hr rfl (fun t ht hW => ⟨1, rfl, by first | (simp [mFit0, mFit1, mIs, bI, *]; done) | (subst_vars; simp [mFit0, mFit1, mIs, bI, *]; done) | (subst_vars; simp_all [mFit0, mFit1, mIs, bI]; done), ht⟩) (fun q h => by cases h) dM_fits_199
set_option maxHeartbeats 4000000 in
set_option maxRecDepth 100000 in
/-- refuse(one, two, three) -/
theorem tM_refuse (l : Launch) (dC : Nat → ClassId) (dI : Nat → Nat → Nat) (r : Nat → Nat) (cI cZ cG : ClassId) (b : Nat → Nat → Int32) (g : Nat → Int32) (sz : Nat) (x y z : Bool)  : Met l yM_refuse wM_refuse ({ frames := 0, cells := 0, slots := 0, locals := 0 }) (va_Pc [.ref (r 0), .int (bI (x)), .int (bI (y)), .int (bI (z))] (fun U => U.heap.size = sz ∧ va_P (dC, dI) cls2 (mw r cI cZ b g) U.heap ∧ va_K (dC, dI) cls2 (xt cI cZ cG) U ∧ va_D (fun _ => True) (mw r cI cZ b g))) (va_Qi (fun (r0 : Int32) (u : MS) => r0 = bI (decide (0 < mTh x y z)) ∧ u = (b, va_up g 0 (nI (mTh x y z)))) (atM dC dI r cI cZ cG (va_A (mw r cI cZ b g) sz)) (va_A (mw r cI cZ b g) sz)) 0 0 (va_A (mw r cI cZ b g) sz) := by
  refine Met.ofW (cc := cM_refuse) (maxL := 4) (ret := (some .boolean)) (by decide) rfl ?_
  intro p e s m args below meth c s₁ B hml hv
  obtain ⟨rfl, hsz, hP, hK, hD0⟩ := hv
  have hx := B.exec
  have hb := B.bytes
  have hr := B.returns
  have hbw : ∀ w ∈ bw, w.before _ s = true := fun w h => atoms_spec (ws := wM_refuse) B.pre w (List.mem_cons_of_mem _ h)
  have hown : s.vm.findClass "EventPatternsModel" = some m.cls := findClass_of_methodNamed B.named
  have hlocks := B.notSynchronized
  subst hsz
  have hD := hD0.self (sz := s.heap.size)
  generalize hAe : va_A (mw r cI cZ b g) s.heap.size = A at hD ⊢
  have hA : ∀ q : Nat, s.heap.size ≤ q → A q := fun q h => by rw [← hAe]; exact Or.inr h
  have hS : va_S A s.heap s.heap [] := va_S.rf
  have hl := lv_entry ([.ref (r 0), .int (bI (x)), .int (bI (y)), .int (bI (z))]) (n := 4) (Nat.le_of_ble_eq_true rfl)
  rw [lg_entry_eq]
  generalize (lg_sl ([.ref (r 0), .int (bI (x)), .int (bI (y)), .int (bI (z))]) ++ List.replicate (4 - (lg_sl ([.ref (r 0), .int (bI (x)), .int (bI (y)), .int (bI (z))])).length) Slot.unset).toArray = ls at hl ⊢
  have hl : lv_has ls 4 [(0, .ref (r 0)), (1, .int (bI (x))), (2, .int (bI (y))), (3, .int (bI (z)))] := hl
  refine lv_aload_n hx hb dM_refuse_0 rfl (lv_at hl 0 rfl) ?_
  refine lv_iload_n hx hb dM_refuse_1 rfl (lv_at hl 1 rfl) ?_
  refine nr_ifb_eq (tgt := 9) hx hb (b := (x)) dM_refuse_2 (by decide) (fun c_2 => ?_) (fun c_2 => ?_)
  · refine lv_iload_n hx hb dM_refuse_9 rfl (lv_at hl 2 rfl) ?_
    refine nr_ifb_eq (tgt := 17) hx hb (b := (y)) dM_refuse_10 (by decide) (fun c_10 => ?_) (fun c_10 => ?_)
    · refine lv_iload_n hx hb dM_refuse_17 rfl (lv_at hl 3 rfl) ?_
      refine nr_ifb_eq (tgt := 25) hx hb (b := (z)) dM_refuse_18 (by decide) (fun c_18 => ?_) (fun c_18 => ?_)
      · refine lv_iconst (v := 0) hx hb dM_refuse_25 (by decide) ?_
        rw [show (0 : Int32) = nI (mTh x y z) from by simp [mTh, *]; try rfl]
        refine va_put (D := (dC, dI)) (ci := 1) (v := .int (nI (mTh x y z))) (ty := .int) (C := "EventPatternsModel") (T := TM) (N := 16) hx hb hbw inM tyM okM nmM hown hK hP hD hS 0 rfl rfl 0 (by decide) (hbw _ kf_M_41) (fun _ h9 => h9) rfl (by decide +kernel) rfl rfl (Nat.le_of_ble_eq_true rfl) dM_refuse_26 (fun H locs hP hD hS => ?_)
        have hP : va_P (dC, dI) cls2 (mw r cI cZ (b) (va_up (g) 0 (nI (mTh x y z)))) H := hP
        have hD : va_D A (mw r cI cZ (b) (va_up (g) 0 (nI (mTh x y z)))) := hD
        refine lv_aload_n hx hb dM_refuse_29 rfl (lv_at hl 0 rfl) ?_
        refine va_get (D := (dC, dI)) (ci := 1) (v := .int (nI (mTh x y z))) (C := "EventPatternsModel") (T := TM) (N := 16) hx hb hbw inM hown hK hP 0 rfl rfl 0 (by decide) (hbw _ kf_M_41) (fun _ h9 => h9) rfl dM_refuse_30 ?_
        have hth : mTh x y z ≤ 3 := by unfold mTh; cases x <;> cases y <;> cases z <;> decide
        refine nr_if_le (tgt := 40) hx hb (a1 := mTh x y z) (by omega) dM_refuse_33 (by decide) (fun c_33 => ?_) (fun c_33 => ?_)
        · refine lv_iconst (v := 0) hx hb dM_refuse_40 (by decide) ?_
          exact W.zret (v := 0) hx hb hr rfl (fun t ht hW => ⟨⟨0, (b, va_up g 0 (nI (mTh x y z))), rfl, ⟨by first | (rw [decide_eq_true (by omega)]; rfl) | (rw [decide_eq_false (by omega)]; rfl), rfl⟩, by rw [ht]; exact hP, va_K.moved hW.alike hK, hD⟩, hS.F ht⟩) hS.2.2 dM_refuse_41
        · refine lv_iconst (v := 1) hx hb dM_refuse_36 (by decide) ?_
          refine lv_goto (tgt := 41) hx hb dM_refuse_37 (by decide) ?_
          exact W.zret (v := 1) hx hb hr rfl (fun t ht hW => ⟨⟨1, (b, va_up g 0 (nI (mTh x y z))), rfl, ⟨by first | (rw [decide_eq_true (by omega)]; rfl) | (rw [decide_eq_false (by omega)]; rfl), rfl⟩, by rw [ht]; exact hP, va_K.moved hW.alike hK, hD⟩, hS.F ht⟩) hS.2.2 dM_refuse_41
      · refine lv_iconst (v := 3) hx hb dM_refuse_21 (by decide) ?_
        refine lv_goto (tgt := 26) hx hb dM_refuse_22 (by decide) ?_
        rw [show (3 : Int32) = nI (mTh x y z) from by simp [mTh, *]; try rfl]
        refine va_put (D := (dC, dI)) (ci := 1) (v := .int (nI (mTh x y z))) (ty := .int) (C := "EventPatternsModel") (T := TM) (N := 16) hx hb hbw inM tyM okM nmM hown hK hP hD hS 0 rfl rfl 0 (by decide) (hbw _ kf_M_41) (fun _ h9 => h9) rfl (by decide +kernel) rfl rfl (Nat.le_of_ble_eq_true rfl) dM_refuse_26 (fun H locs hP hD hS => ?_)
        have hP : va_P (dC, dI) cls2 (mw r cI cZ (b) (va_up (g) 0 (nI (mTh x y z)))) H := hP
        have hD : va_D A (mw r cI cZ (b) (va_up (g) 0 (nI (mTh x y z)))) := hD
        refine lv_aload_n hx hb dM_refuse_29 rfl (lv_at hl 0 rfl) ?_
        refine va_get (D := (dC, dI)) (ci := 1) (v := .int (nI (mTh x y z))) (C := "EventPatternsModel") (T := TM) (N := 16) hx hb hbw inM hown hK hP 0 rfl rfl 0 (by decide) (hbw _ kf_M_41) (fun _ h9 => h9) rfl dM_refuse_30 ?_
        have hth : mTh x y z ≤ 3 := by unfold mTh; cases x <;> cases y <;> cases z <;> decide
        refine nr_if_le (tgt := 40) hx hb (a1 := mTh x y z) (by omega) dM_refuse_33 (by decide) (fun c_33 => ?_) (fun c_33 => ?_)
        · refine lv_iconst (v := 0) hx hb dM_refuse_40 (by decide) ?_
          exact W.zret (v := 0) hx hb hr rfl (fun t ht hW => ⟨⟨0, (b, va_up g 0 (nI (mTh x y z))), rfl, ⟨by first | (rw [decide_eq_true (by omega)]; rfl) | (rw [decide_eq_false (by omega)]; rfl), rfl⟩, by rw [ht]; exact hP, va_K.moved hW.alike hK, hD⟩, hS.F ht⟩) hS.2.2 dM_refuse_41
        · refine lv_iconst (v := 1) hx hb dM_refuse_36 (by decide) ?_
          refine lv_goto (tgt := 41) hx hb dM_refuse_37 (by decide) ?_
          exact W.zret (v := 1) hx hb hr rfl (fun t ht hW => ⟨⟨1, (b, va_up g 0 (nI (mTh x y z))), rfl, ⟨by first | (rw [decide_eq_true (by omega)]; rfl) | (rw [decide_eq_false (by omega)]; rfl), rfl⟩, by rw [ht]; exact hP, va_K.moved hW.alike hK, hD⟩, hS.F ht⟩) hS.2.2 dM_refuse_41
    · refine lv_iconst (v := 2) hx hb dM_refuse_13 (by decide) ?_
      refine lv_goto (tgt := 26) hx hb dM_refuse_14 (by decide) ?_
      rw [show (2 : Int32) = nI (mTh x y z) from by simp [mTh, *]; try rfl]
      refine va_put (D := (dC, dI)) (ci := 1) (v := .int (nI (mTh x y z))) (ty := .int) (C := "EventPatternsModel") (T := TM) (N := 16) hx hb hbw inM tyM okM nmM hown hK hP hD hS 0 rfl rfl 0 (by decide) (hbw _ kf_M_41) (fun _ h9 => h9) rfl (by decide +kernel) rfl rfl (Nat.le_of_ble_eq_true rfl) dM_refuse_26 (fun H locs hP hD hS => ?_)
      have hP : va_P (dC, dI) cls2 (mw r cI cZ (b) (va_up (g) 0 (nI (mTh x y z)))) H := hP
      have hD : va_D A (mw r cI cZ (b) (va_up (g) 0 (nI (mTh x y z)))) := hD
      refine lv_aload_n hx hb dM_refuse_29 rfl (lv_at hl 0 rfl) ?_
      refine va_get (D := (dC, dI)) (ci := 1) (v := .int (nI (mTh x y z))) (C := "EventPatternsModel") (T := TM) (N := 16) hx hb hbw inM hown hK hP 0 rfl rfl 0 (by decide) (hbw _ kf_M_41) (fun _ h9 => h9) rfl dM_refuse_30 ?_
      have hth : mTh x y z ≤ 3 := by unfold mTh; cases x <;> cases y <;> cases z <;> decide
      refine nr_if_le (tgt := 40) hx hb (a1 := mTh x y z) (by omega) dM_refuse_33 (by decide) (fun c_33 => ?_) (fun c_33 => ?_)
      · refine lv_iconst (v := 0) hx hb dM_refuse_40 (by decide) ?_
        exact W.zret (v := 0) hx hb hr rfl (fun t ht hW => ⟨⟨0, (b, va_up g 0 (nI (mTh x y z))), rfl, ⟨by first | (rw [decide_eq_true (by omega)]; rfl) | (rw [decide_eq_false (by omega)]; rfl), rfl⟩, by rw [ht]; exact hP, va_K.moved hW.alike hK, hD⟩, hS.F ht⟩) hS.2.2 dM_refuse_41
      · refine lv_iconst (v := 1) hx hb dM_refuse_36 (by decide) ?_
        refine lv_goto (tgt := 41) hx hb dM_refuse_37 (by decide) ?_
        exact W.zret (v := 1) hx hb hr rfl (fun t ht hW => ⟨⟨1, (b, va_up g 0 (nI (mTh x y z))), rfl, ⟨by first | (rw [decide_eq_true (by omega)]; rfl) | (rw [decide_eq_false (by omega)]; rfl), rfl⟩, by rw [ht]; exact hP, va_K.moved hW.alike hK, hD⟩, hS.F ht⟩) hS.2.2 dM_refuse_41
  · refine lv_iconst (v := 1) hx hb dM_refuse_5 (by decide) ?_
    refine lv_goto (tgt := 26) hx hb dM_refuse_6 (by decide) ?_
    rw [show (1 : Int32) = nI (mTh x y z) from by simp [mTh, *]; try rfl]
    refine va_put (D := (dC, dI)) (ci := 1) (v := .int (nI (mTh x y z))) (ty := .int) (C := "EventPatternsModel") (T := TM) (N := 16) hx hb hbw inM tyM okM nmM hown hK hP hD hS 0 rfl rfl 0 (by decide) (hbw _ kf_M_41) (fun _ h9 => h9) rfl (by decide +kernel) rfl rfl (Nat.le_of_ble_eq_true rfl) dM_refuse_26 (fun H locs hP hD hS => ?_)
    have hP : va_P (dC, dI) cls2 (mw r cI cZ (b) (va_up (g) 0 (nI (mTh x y z)))) H := hP
    have hD : va_D A (mw r cI cZ (b) (va_up (g) 0 (nI (mTh x y z)))) := hD
    refine lv_aload_n hx hb dM_refuse_29 rfl (lv_at hl 0 rfl) ?_
    refine va_get (D := (dC, dI)) (ci := 1) (v := .int (nI (mTh x y z))) (C := "EventPatternsModel") (T := TM) (N := 16) hx hb hbw inM hown hK hP 0 rfl rfl 0 (by decide) (hbw _ kf_M_41) (fun _ h9 => h9) rfl dM_refuse_30 ?_
    have hth : mTh x y z ≤ 3 := by unfold mTh; cases x <;> cases y <;> cases z <;> decide
    refine nr_if_le (tgt := 40) hx hb (a1 := mTh x y z) (by omega) dM_refuse_33 (by decide) (fun c_33 => ?_) (fun c_33 => ?_)
    · refine lv_iconst (v := 0) hx hb dM_refuse_40 (by decide) ?_
      exact W.zret (v := 0) hx hb hr rfl (fun t ht hW => ⟨⟨0, (b, va_up g 0 (nI (mTh x y z))), rfl, ⟨by first | (rw [decide_eq_true (by omega)]; rfl) | (rw [decide_eq_false (by omega)]; rfl), rfl⟩, by rw [ht]; exact hP, va_K.moved hW.alike hK, hD⟩, hS.F ht⟩) hS.2.2 dM_refuse_41
    · refine lv_iconst (v := 1) hx hb dM_refuse_36 (by decide) ?_
      refine lv_goto (tgt := 41) hx hb dM_refuse_37 (by decide) ?_
      exact W.zret (v := 1) hx hb hr rfl (fun t ht hW => ⟨⟨1, (b, va_up g 0 (nI (mTh x y z))), rfl, ⟨by first | (rw [decide_eq_true (by omega)]; rfl) | (rw [decide_eq_false (by omega)]; rfl), rfl⟩, by rw [ht]; exact hP, va_K.moved hW.alike hK, hD⟩, hS.F ht⟩) hS.2.2 dM_refuse_41
set_option maxHeartbeats 4000000 in
set_option maxRecDepth 100000 in
/-- clear() -/
theorem tM_clear (l : Launch) (dC : Nat → ClassId) (dI : Nat → Nat → Nat) (r : Nat → Nat) (cI cZ cG : ClassId) (b : Nat → Nat → Int32) (g : Nat → Int32) (sz : Nat)   : Met l yM_clear wM_clear ({ frames := 0, cells := 0, slots := 0, locals := 0 }) (va_Pc [.ref (r 0)] (fun U => U.heap.size = sz ∧ va_P (dC, dI) cls2 (mw r cI cZ b g) U.heap ∧ va_K (dC, dI) cls2 (xt cI cZ cG) U ∧ va_D (fun _ => True) (mw r cI cZ b g))) (va_Qv (fun (u : MS) => u = (b, va_up (va_up g 0 0) 1 0)) (atM dC dI r cI cZ cG (va_A (mw r cI cZ b g) sz)) (va_A (mw r cI cZ b g) sz)) 0 0 (va_A (mw r cI cZ b g) sz) := by
  refine Met.ofW (cc := cM_clear) (maxL := 1) (ret := none) (by decide) rfl ?_
  intro p e s m args below meth c s₁ B hml hv
  obtain ⟨rfl, hsz, hP, hK, hD0⟩ := hv
  have hx := B.exec
  have hb := B.bytes
  have hr := B.returns
  have hbw : ∀ w ∈ bw, w.before _ s = true := fun w h => atoms_spec (ws := wM_clear) B.pre w (List.mem_cons_of_mem _ h)
  have hown : s.vm.findClass "EventPatternsModel" = some m.cls := findClass_of_methodNamed B.named
  have hlocks := B.notSynchronized
  subst hsz
  have hD := hD0.self (sz := s.heap.size)
  generalize hAe : va_A (mw r cI cZ b g) s.heap.size = A at hD ⊢
  have hA : ∀ q : Nat, s.heap.size ≤ q → A q := fun q h => by rw [← hAe]; exact Or.inr h
  have hS : va_S A s.heap s.heap [] := va_S.rf
  have hl := lv_entry ([.ref (r 0)]) (n := 1) (Nat.le_of_ble_eq_true rfl)
  rw [lg_entry_eq]
  generalize (lg_sl ([.ref (r 0)]) ++ List.replicate (1 - (lg_sl ([.ref (r 0)])).length) Slot.unset).toArray = ls at hl ⊢
  have hl : lv_has ls 1 [(0, .ref (r 0))] := hl
  refine lv_aload_n hx hb dM_clear_0 rfl (lv_at hl 0 rfl) ?_
  refine lv_iconst (v := 0) hx hb dM_clear_1 (by decide) ?_
  refine va_put (D := (dC, dI)) (ci := 1) (v := .int (0)) (ty := .int) (C := "EventPatternsModel") (T := TM) (N := 16) hx hb hbw inM tyM okM nmM hown hK hP hD hS 0 rfl rfl 0 (by decide) (hbw _ kf_M_41) (fun _ h9 => h9) rfl (by decide +kernel) rfl rfl (Nat.le_of_ble_eq_true rfl) dM_clear_2 (fun H locs hP hD hS => ?_)
  have hP : va_P (dC, dI) cls2 (mw r cI cZ (b) (va_up (g) 0 (0))) H := hP
  have hD : va_D A (mw r cI cZ (b) (va_up (g) 0 (0))) := hD
  refine lv_aload_n hx hb dM_clear_5 rfl (lv_at hl 0 rfl) ?_
  refine lv_iconst (v := 0) hx hb dM_clear_6 (by decide) ?_
  refine va_put (D := (dC, dI)) (ci := 1) (v := .int (0)) (ty := .int) (C := "EventPatternsModel") (T := TM) (N := 16) hx hb hbw inM tyM okM nmM hown hK hP hD hS 0 rfl rfl 1 (by decide) (hbw _ kf_M_45) (fun _ h9 => h9) rfl (by decide +kernel) rfl rfl (Nat.le_of_ble_eq_true rfl) dM_clear_7 (fun H locs hP hD hS => ?_)
  have hP : va_P (dC, dI) cls2 (mw r cI cZ (b) (va_up (va_up (g) 0 (0)) 1 (0))) H := hP
  have hD : va_D A (mw r cI cZ (b) (va_up (va_up (g) 0 (0)) 1 (0))) := hD
  exact W.vret hx hb hr (fun t ht hW => ⟨⟨(b, va_up (va_up g 0 0) 1 0), rfl, rfl, by rw [ht]; exact hP, va_K.moved hW.alike hK, hD⟩, hS.F ht⟩) hS.2.2 dM_clear_10
set_option maxHeartbeats 4000000 in
set_option maxRecDepth 100000 in
/-- events() -/
theorem tM_events (l : Launch) (dC : Nat → ClassId) (dI : Nat → Nat → Nat) (r : Nat → Nat) (cI cZ cG : ClassId) (b : Nat → Nat → Int32) (g : Nat → Int32) (sz : Nat)   : Met l yM_events wM_events ({ frames := 0, cells := 0, slots := 0, locals := 0 }) (va_Pc [.ref (r 0)] (fun U => U.heap.size = sz ∧ va_P (dC, dI) cls2 (mw r cI cZ b g) U.heap ∧ va_K (dC, dI) cls2 (xt cI cZ cG) U ∧ va_D (fun _ => True) (mw r cI cZ b g))) (va_Qi (fun (r0 : Int32) (u : MS) => r0 = g 1 ∧ u = (b, va_up g 0 0)) (atM dC dI r cI cZ cG (va_A (mw r cI cZ b g) sz)) (va_A (mw r cI cZ b g) sz)) 0 0 (va_A (mw r cI cZ b g) sz) := by
  refine Met.ofW (cc := cM_events) (maxL := 1) (ret := (some .int)) (by decide) rfl ?_
  intro p e s m args below meth c s₁ B hml hv
  obtain ⟨rfl, hsz, hP, hK, hD0⟩ := hv
  have hx := B.exec
  have hb := B.bytes
  have hr := B.returns
  have hbw : ∀ w ∈ bw, w.before _ s = true := fun w h => atoms_spec (ws := wM_events) B.pre w (List.mem_cons_of_mem _ h)
  have hown : s.vm.findClass "EventPatternsModel" = some m.cls := findClass_of_methodNamed B.named
  have hlocks := B.notSynchronized
  subst hsz
  have hD := hD0.self (sz := s.heap.size)
  generalize hAe : va_A (mw r cI cZ b g) s.heap.size = A at hD ⊢
  have hA : ∀ q : Nat, s.heap.size ≤ q → A q := fun q h => by rw [← hAe]; exact Or.inr h
  have hS : va_S A s.heap s.heap [] := va_S.rf
  have hl := lv_entry ([.ref (r 0)]) (n := 1) (Nat.le_of_ble_eq_true rfl)
  rw [lg_entry_eq]
  generalize (lg_sl ([.ref (r 0)]) ++ List.replicate (1 - (lg_sl ([.ref (r 0)])).length) Slot.unset).toArray = ls at hl ⊢
  have hl : lv_has ls 1 [(0, .ref (r 0))] := hl
  refine lv_aload_n hx hb dM_events_0 rfl (lv_at hl 0 rfl) ?_
  refine lv_iconst (v := 0) hx hb dM_events_1 (by decide) ?_
  refine va_put (D := (dC, dI)) (ci := 1) (v := .int (0)) (ty := .int) (C := "EventPatternsModel") (T := TM) (N := 16) hx hb hbw inM tyM okM nmM hown hK hP hD hS 0 rfl rfl 0 (by decide) (hbw _ kf_M_41) (fun _ h9 => h9) rfl (by decide +kernel) rfl rfl (Nat.le_of_ble_eq_true rfl) dM_events_2 (fun H locs hP hD hS => ?_)
  have hP : va_P (dC, dI) cls2 (mw r cI cZ (b) (va_up (g) 0 (0))) H := hP
  have hD : va_D A (mw r cI cZ (b) (va_up (g) 0 (0))) := hD
  refine lv_aload_n hx hb dM_events_5 rfl (lv_at hl 0 rfl) ?_
  refine va_get (D := (dC, dI)) (ci := 1) (v := .int (g 1)) (C := "EventPatternsModel") (T := TM) (N := 16) hx hb hbw inM hown hK hP 0 rfl rfl 1 (by decide) (hbw _ kf_M_45) (fun _ h9 => h9) rfl dM_events_6 ?_
  exact W.iret (v := g 1) hx hb hr (fun t ht hW => ⟨⟨g 1, (b, va_up g 0 0), rfl, ⟨rfl, rfl⟩, by rw [ht]; exact hP, va_K.moved hW.alike hK, hD⟩, hS.F ht⟩) hS.2.2 dM_events_9
def mAdd (b : Nat → Nat → Int32) (L e1 st : Nat) : Nat → Nat → Int32 := va_up (va_up b 8 (upd (b 8) L (nI e1))) 9 (upd (b 9) L (nI st))
set_option maxHeartbeats 4000000 in
set_option maxRecDepth 100000 in
/-- notes(e, s) -/
theorem tM_notes (l : Launch) (dC : Nat → ClassId) (dI : Nat → Nat → Nat) (r : Nat → Nat) (cI cZ cG : ClassId) (b : Nat → Nat → Int32) (g : Nat → Int32) (sz : Nat) (L e1 st : Nat) (hL : L < 16) (hg5 : g 5 = nI L) : Met l yM_notes wM_notes ({ frames := 0, cells := 0, slots := 0, locals := 0 }) (va_Pc [.ref (r 0), .int (nI (e1)), .int (nI (st))] (fun U => U.heap.size = sz ∧ va_P (dC, dI) cls2 (mw r cI cZ b g) U.heap ∧ va_K (dC, dI) cls2 (xt cI cZ cG) U ∧ va_D (fun _ => True) (mw r cI cZ b g))) (va_Qv (fun (u : MS) => u = (mAdd b L e1 st, va_up g 5 (nI (L + 1)))) (atM dC dI r cI cZ cG (va_A (mw r cI cZ b g) sz)) (va_A (mw r cI cZ b g) sz)) 0 0 (va_A (mw r cI cZ b g) sz) := by
  refine Met.ofW (cc := cM_notes) (maxL := 3) (ret := none) (by decide) rfl ?_
  intro p e s m args below meth c s₁ B hml hv
  obtain ⟨rfl, hsz, hP, hK, hD0⟩ := hv
  have hx := B.exec
  have hb := B.bytes
  have hr := B.returns
  have hbw : ∀ w ∈ bw, w.before _ s = true := fun w h => atoms_spec (ws := wM_notes) B.pre w (List.mem_cons_of_mem _ h)
  have hown : s.vm.findClass "EventPatternsModel" = some m.cls := findClass_of_methodNamed B.named
  have hlocks := B.notSynchronized
  subst hsz
  have hD := hD0.self (sz := s.heap.size)
  generalize hAe : va_A (mw r cI cZ b g) s.heap.size = A at hD ⊢
  have hA : ∀ q : Nat, s.heap.size ≤ q → A q := fun q h => by rw [← hAe]; exact Or.inr h
  have hS : va_S A s.heap s.heap [] := va_S.rf
  have hl := lv_entry ([.ref (r 0), .int (nI (e1)), .int (nI (st))]) (n := 3) (Nat.le_of_ble_eq_true rfl)
  rw [lg_entry_eq]
  generalize (lg_sl ([.ref (r 0), .int (nI (e1)), .int (nI (st))]) ++ List.replicate (3 - (lg_sl ([.ref (r 0), .int (nI (e1)), .int (nI (st))])).length) Slot.unset).toArray = ls at hl ⊢
  have hl : lv_has ls 3 [(0, .ref (r 0)), (1, .int (nI (e1))), (2, .int (nI (st)))] := hl
  refine lv_aload_n hx hb dM_notes_0 rfl (lv_at hl 0 rfl) ?_
  refine va_get (D := (dC, dI)) (ci := 1) (v := .ref (r 9)) (C := "EventPatternsModel") (T := TM) (N := 16) hx hb hbw inM hown hK hP 0 rfl rfl 14 (by decide) (hbw _ kf_M_35) (fun _ h9 => h9) rfl dM_notes_1 ?_
  refine lv_aload_n hx hb dM_notes_4 rfl (lv_at hl 0 rfl) ?_
  refine va_get (D := (dC, dI)) (ci := 1) (v := .int (nI (L))) (C := "EventPatternsModel") (T := TM) (N := 16) hx hb hbw inM hown hK hP 0 rfl rfl 13 (by decide) (hbw _ kf_M_82) (fun _ h9 => h9) (congrArg (fun z => some (Value.int z)) (hg5)) dM_notes_5 ?_
  refine lv_iload_n hx hb dM_notes_8 rfl (lv_at hl 1 rfl) ?_
  refine nr_iast hx hb hK hP hD hS 9 0 rfl rfl (j := L) (by omega) (by decide) dM_notes_9 (fun H locs hP hD hS => ?_)
  have hP : va_P (dC, dI) cls2 (mw r cI cZ (va_up (b) 8 (upd (b 8) (L) (nI (e1)))) (g)) H := hP
  have hD : va_D A (mw r cI cZ (va_up (b) 8 (upd (b 8) (L) (nI (e1)))) (g)) := hD
  refine lv_aload_n hx hb dM_notes_10 rfl (lv_at hl 0 rfl) ?_
  refine va_get (D := (dC, dI)) (ci := 1) (v := .ref (r 10)) (C := "EventPatternsModel") (T := TM) (N := 16) hx hb hbw inM hown hK hP 0 rfl rfl 15 (by decide) (hbw _ kf_M_38) (fun _ h9 => h9) rfl dM_notes_11 ?_
  refine lv_aload_n hx hb dM_notes_14 rfl (lv_at hl 0 rfl) ?_
  refine va_get (D := (dC, dI)) (ci := 1) (v := .int (nI (L))) (C := "EventPatternsModel") (T := TM) (N := 16) hx hb hbw inM hown hK hP 0 rfl rfl 13 (by decide) (hbw _ kf_M_82) (fun _ h9 => h9) (congrArg (fun z => some (Value.int z)) (hg5)) dM_notes_15 ?_
  refine lv_iload_n hx hb dM_notes_18 rfl (lv_at hl 2 rfl) ?_
  refine nr_iast hx hb hK hP hD hS 10 0 rfl rfl (j := L) (by omega) (by decide) dM_notes_19 (fun H locs hP hD hS => ?_)
  have hP : va_P (dC, dI) cls2 (mw r cI cZ (va_up (va_up (b) 8 (upd (b 8) (L) (nI (e1)))) 9 (upd (b 9) (L) (nI (st)))) (g)) H := hP
  have hD : va_D A (mw r cI cZ (va_up (va_up (b) 8 (upd (b 8) (L) (nI (e1)))) 9 (upd (b 9) (L) (nI (st)))) (g)) := hD
  refine lv_aload_n hx hb dM_notes_20 rfl (lv_at hl 0 rfl) ?_
  refine lv_dup hx hb dM_notes_21 rfl ?_
  refine va_get (D := (dC, dI)) (ci := 1) (v := .int (nI (L))) (C := "EventPatternsModel") (T := TM) (N := 16) hx hb hbw inM hown hK hP 0 rfl rfl 13 (by decide) (hbw _ kf_M_82) (fun _ h9 => h9) (congrArg (fun z => some (Value.int z)) (hg5)) dM_notes_22 ?_
  refine lv_iconst (v := 1) hx hb dM_notes_25 (by decide) ?_
  refine nr_iadd hx hb (a1 := L) (b1 := 1) dM_notes_26 ?_
  refine va_put (D := (dC, dI)) (ci := 1) (v := .int (nI (L + 1))) (ty := .int) (C := "EventPatternsModel") (T := TM) (N := 16) hx hb hbw inM tyM okM nmM hown hK hP hD hS 0 rfl rfl 13 (by decide) (hbw _ kf_M_82) (fun _ h9 => h9) rfl (by decide +kernel) rfl rfl (Nat.le_of_ble_eq_true rfl) dM_notes_27 (fun H locs hP hD hS => ?_)
  have hP : va_P (dC, dI) cls2 (mw r cI cZ (va_up (va_up (b) 8 (upd (b 8) (L) (nI (e1)))) 9 (upd (b 9) (L) (nI (st)))) (va_up (g) 5 (nI (L + 1)))) H := hP
  have hD : va_D A (mw r cI cZ (va_up (va_up (b) 8 (upd (b 8) (L) (nI (e1)))) 9 (upd (b 9) (L) (nI (st)))) (va_up (g) 5 (nI (L + 1)))) := hD
  exact W.vret hx hb hr (fun t ht hW => ⟨⟨(mAdd b L e1 st, va_up g 5 (nI (L + 1))), rfl, rfl, by rw [ht]; exact hP, va_K.moved hW.alike hK, hD⟩, hS.F ht⟩) hS.2.2 dM_notes_30
end
section
/-! THE REFERENCE: event, pattern, step -/
def mLate (b : Nat → Nat → Int32) (ev : Nat) : Int32 := if ev = 0 then 0 else b 0 (ev - 1)
def mEvT (b : Nat → Nat → Int32) (ev : Nat) (tm kd : Int32) : Nat := mTh (!(iIn tm (mLate b ev) 1000000 && iIn kd 0 7)) (decide (ev = 400)) false
def mEvB (b : Nat → Nat → Int32) (ev : Nat) (tm kd va : Int32) : Nat → Nat → Int32 := va_up (va_up (va_up b 0 (upd (b 0) ev tm)) 1 (upd (b 1) ev kd)) 2 (upd (b 2) ev va)
def mPaT (sy sp : Int32) : Nat := mTh (!iIn sy 0 1 || !iIn sp 0 1000000) false false
def mStT (ms : Nat) (ki te : Int32) : Nat := mTh (!(iIn ki 1 255 && iIn te 0 4)) (decide (ms = 5)) false
def mStB (b : Nat → Nat → Int32) (ms : Nat) (ki te nn mb : Int32) : Nat → Nat → Int32 := va_up (va_up (va_up (va_up b 3 (upd (b 3) ms ki)) 4 (upd (b 4) ms te)) 5 (upd (b 5) ms nn)) 6 (upd (b 6) ms (vp_nar .boolean mb))
set_option maxHeartbeats 4000000 in
set_option maxRecDepth 100000 in
/-- event(time, kind, value) -/
theorem tM_event (l : Launch) (dC : Nat → ClassId) (dI : Nat → Nat → Nat) (r : Nat → Nat) (cI cZ cG : ClassId) (b : Nat → Nat → Int32) (g : Nat → Int32) (sz : Nat) (ev : Nat) (tm kd va : Int32) (hev : ev ≤ 400) (hg1 : g 1 = nI ev) : Met l yM_event wM_event ({ frames := 1, cells := 0, slots := 0, locals := 23 }) (va_Pc [.ref (r 0), .int (tm), .int (kd), .int (va)] (fun U => U.heap.size = sz ∧ va_P (dC, dI) cls2 (mw r cI cZ b g) U.heap ∧ va_K (dC, dI) cls2 (xt cI cZ cG) U ∧ va_D (fun _ => True) (mw r cI cZ b g))) (va_Qi (fun (r0 : Int32) (u : MS) => (mEvT b ev tm kd = 0 → r0 = nI ev ∧ u = (mEvB b ev tm kd va, va_up (va_up g 0 (nI (mTh false false false))) 1 (nI (ev + 1)))) ∧ (¬ mEvT b ev tm kd = 0 → u = (b, va_up g 0 (nI (mEvT b ev tm kd))))) (atM dC dI r cI cZ cG (va_A (mw r cI cZ b g) sz)) (va_A (mw r cI cZ b g) sz)) 0 0 (va_A (mw r cI cZ b g) sz) := by
  refine Met.ofW (cc := cM_event) (maxL := 5) (ret := (some .int)) (by decide) rfl ?_
  intro p e s m args below meth c s₁ B hml hv
  obtain ⟨rfl, hsz, hP, hK, hD0⟩ := hv
  have hx := B.exec
  have hb := B.bytes
  have hr := B.returns
  have hbw : ∀ w ∈ bw, w.before _ s = true := fun w h => atoms_spec (ws := wM_event) B.pre w (List.mem_cons_of_mem _ h)
  have hown : s.vm.findClass "EventPatternsModel" = some m.cls := findClass_of_methodNamed B.named
  have hlocks := B.notSynchronized
  subst hsz
  have hD := hD0.self (sz := s.heap.size)
  generalize hAe : va_A (mw r cI cZ b g) s.heap.size = A at hD ⊢
  have hA : ∀ q : Nat, s.heap.size ≤ q → A q := fun q h => by rw [← hAe]; exact Or.inr h
  have hS : va_S A s.heap s.heap [] := va_S.rf
  have hl := lv_entry ([.ref (r 0), .int (tm), .int (kd), .int (va)]) (n := 5) (Nat.le_of_ble_eq_true rfl)
  rw [lg_entry_eq]
  generalize (lg_sl ([.ref (r 0), .int (tm), .int (kd), .int (va)]) ++ List.replicate (5 - (lg_sl ([.ref (r 0), .int (tm), .int (kd), .int (va)])).length) Slot.unset).toArray = ls at hl ⊢
  have hl : lv_has ls 5 [(0, .ref (r 0)), (1, .int (tm)), (2, .int (kd)), (3, .int (va))] := hl
  refine lv_iload_n hx hb dM_event_0 rfl (lv_at hl 1 rfl) ?_
  refine lv_aload_n hx hb dM_event_1 rfl (lv_at hl 0 rfl) ?_
  refine va_get (D := (dC, dI)) (ci := 1) (v := .int (nI (ev))) (C := "EventPatternsModel") (T := TM) (N := 16) hx hb hbw inM hown hK hP 0 rfl rfl 1 (by decide) (hbw _ kf_M_45) (fun _ h9 => h9) (congrArg (fun z => some (Value.int z)) (hg1)) dM_event_2 ?_
  refine nr_if_le (tgt := 22) hx hb (a1 := ev) (by omega) dM_event_5 (by decide) (fun c_5 => ?_) (fun c_5 => ?_)
  · refine lv_iconst (v := 0) hx hb dM_event_22 (by decide) ?_
    refine W.eq (g2 := F0 m 23 ls [.int (mLate b ev), .int (tm)]) (by first | rw [mLate, if_pos (by omega)] | rw [mLate, if_neg (by omega)]) ?_
    refine lv_ldc (v := 1000000) hx hb hown (hbw _ kk_M_48) dM_event_23 ?_
    refine vp_callSi (W.runS (As := [.int (tm), .int (mLate b ev), .int (1000000)]) (rest := []) ⟨hx, hb, hml, hown, hbw⟩ (tM_in l (tm) (mLate b ev) (1000000)) (cwS 3 hbw (bw_S km_M_49 ks_yM_in ki_EventPatternsModel kcM_in) rfl rfl rfl (by decide +kernel) ⟨Nat.le_of_ble_eq_true rfl, Nat.le_of_ble_eq_true rfl⟩) ⟨fun a U g mk q => q, fun U hU hW => ⟨rfl, trivial⟩⟩ rfl rfl hl.1 rfl (lv_room (Nat.le_of_ble_eq_true rfl)) dM_event_25 ⟨Nat.le_of_ble_eq_true rfl, Nat.le_of_ble_eq_true rfl⟩) (fun r_25 hq => ?_)
    subst hq
    refine nr_ifb_eq (tgt := 45) hx hb (b := (iIn (tm) (mLate b ev) (1000000))) dM_event_28 (by decide) (fun c_28 => ?_) (fun c_28 => ?_)
    · refine lv_iconst (v := 0) hx hb dM_event_45 (by decide) ?_
      refine lv_istore (lv' := [(4, .int (0)), (0, .ref (r 0)), (1, .int (tm)), (2, .int (kd)), (3, .int (va))]) hx hb dM_event_46 hl (by decide) rfl (fun ls hl => ?_)
      refine lv_aload_n hx hb dM_event_48 rfl (lv_at hl 1 rfl) ?_
      refine lv_iload hx hb dM_event_49 (lv_at hl 0 rfl) ?_
      refine lv_if_ne (tgt := 58) hx hb dM_event_51 (by decide) (fun c9 => absurd c9 (by decide)) (fun _ => ?_)
      refine lv_iconst (v := 1) hx hb dM_event_54 (by decide) ?_
      refine lv_goto (tgt := 59) hx hb dM_event_55 (by decide) ?_
      refine lv_aload_n hx hb dM_event_59 rfl (lv_at hl 1 rfl) ?_
      refine va_get (D := (dC, dI)) (ci := 1) (v := .int (nI (ev))) (C := "EventPatternsModel") (T := TM) (N := 16) hx hb hbw inM hown hK hP 0 rfl rfl 1 (by decide) (hbw _ kf_M_45) (fun _ h9 => h9) (congrArg (fun z => some (Value.int z)) (hg1)) dM_event_60 ?_
      refine lv_sipush (v := 400) hx hb dM_event_63 (by decide) ?_
      refine nr_icmp_ne (tgt := 73) hx hb (a1 := ev) (b1 := 400) (by omega) (by omega) dM_event_66 (by decide) (fun c_66 => ?_) (fun c_66 => ?_)
      · refine lv_iconst (v := 0) hx hb dM_event_73 (by decide) ?_
        refine lv_iconst (v := 0) hx hb dM_event_74 (by decide) ?_
        have hFc := va_free (wc := mw r cI cZ (b) (g)) hD hS hA (List.range 11) rfl
        refine va_calli (va_runV (As := [.int (1), .int (0), .int (0)]) (rest := []) ⟨hx, hb, hml, hown, hbw⟩ (tM_refuse l dC dI r cI cZ cG (b) (g) s.heap.size true false false) (cwV 3 hbw (bw_V km_M_53 ki_yM_refuse ksel_yM_refuse ki_EventPatternsModel kcM_refuse) rfl rfl rfl (by decide +kernel) ⟨Nat.le_of_ble_eq_true rfl, Nat.le_of_ble_eq_true rfl⟩) ⟨fun a U g mk q => by obtain ⟨q0, q1, qP, qK, qD⟩ := q; exact ⟨q0, q1, qP, va_K.moved (u := U) (U := U.calling g mk a) (Vm.Alike.refl U.vm) qK, qD⟩, va_recv hK hP (ci := 1) (q0 := 0) rfl rfl, fun U hU hW => ⟨rfl, by rw [hU], by rw [hU]; exact hP, va_K.moved hW.alike hK, hD.weaken (fun _ _ _ _ => trivial)⟩⟩ rfl rfl hl.1 rfl (lv_room (Nat.le_of_ble_eq_true rfl)) dM_event_75 ⟨Nat.le_of_ble_eq_true rfl, Nat.le_of_ble_eq_true rfl⟩) hS (fun q _ h => hFc q h) hFc (fun r_75 u t H1 locs ht hvm hq hB hz1 hk1 hS => ?_)
        obtain ⟨hq1, hq⟩ := hq
        have hq1 : r_75 = 1 := hq1
        subst hq1
        obtain rfl := hq
        obtain ⟨hP1, hK1, hD1⟩ := hB
        rw [ht] at hP1
        have hP : va_P (dC, dI) cls2 (mw r cI cZ (b) (va_up (g) 0 (nI (mTh true false false)))) H1 := hP1
        have hD : va_D A (mw r cI cZ (b) (va_up (g) 0 (nI (mTh true false false)))) := hD1.weaken (fun _ _ _ h => hFc _ h)
        generalize H1 = H at hP hS ⊢
        refine lv_if_eq (tgt := 83) hx hb dM_event_78 (by decide) (fun c9 => absurd c9 (by decide)) (fun _ => ?_)
        refine lv_iconst (v := 0) hx hb dM_event_81 (by decide) ?_
        have hT : mEvT b ev tm kd = mTh true false false := by first | (rw [mEvT, c_28, c_38, decide_eq_true c_66]; rfl) | (rw [mEvT, c_28, c_38, decide_eq_false c_66]; rfl) | (rw [mEvT, c_28, decide_eq_true c_66]; rfl) | (rw [mEvT, c_28, decide_eq_false c_66]; rfl)
        rw [← hT] at hP hD
        exact W.iret (v := 0) hx hb hr (fun t ht hW => ⟨⟨0, (b, va_up g 0 (nI (mEvT b ev tm kd))), rfl, ⟨fun h9 => absurd h9 (by rw [hT]; decide), fun _ => rfl⟩, by rw [ht]; exact hP, va_K.moved hW.alike hK, hD⟩, hS.F ht⟩) hS.2.2 dM_event_82
      · refine lv_iconst (v := 1) hx hb dM_event_69 (by decide) ?_
        refine lv_goto (tgt := 74) hx hb dM_event_70 (by decide) ?_
        refine lv_iconst (v := 0) hx hb dM_event_74 (by decide) ?_
        have hFc := va_free (wc := mw r cI cZ (b) (g)) hD hS hA (List.range 11) rfl
        refine va_calli (va_runV (As := [.int (1), .int (1), .int (0)]) (rest := []) ⟨hx, hb, hml, hown, hbw⟩ (tM_refuse l dC dI r cI cZ cG (b) (g) s.heap.size true true false) (cwV 3 hbw (bw_V km_M_53 ki_yM_refuse ksel_yM_refuse ki_EventPatternsModel kcM_refuse) rfl rfl rfl (by decide +kernel) ⟨Nat.le_of_ble_eq_true rfl, Nat.le_of_ble_eq_true rfl⟩) ⟨fun a U g mk q => by obtain ⟨q0, q1, qP, qK, qD⟩ := q; exact ⟨q0, q1, qP, va_K.moved (u := U) (U := U.calling g mk a) (Vm.Alike.refl U.vm) qK, qD⟩, va_recv hK hP (ci := 1) (q0 := 0) rfl rfl, fun U hU hW => ⟨rfl, by rw [hU], by rw [hU]; exact hP, va_K.moved hW.alike hK, hD.weaken (fun _ _ _ _ => trivial)⟩⟩ rfl rfl hl.1 rfl (lv_room (Nat.le_of_ble_eq_true rfl)) dM_event_75 ⟨Nat.le_of_ble_eq_true rfl, Nat.le_of_ble_eq_true rfl⟩) hS (fun q _ h => hFc q h) hFc (fun r_75 u t H1 locs ht hvm hq hB hz1 hk1 hS => ?_)
        obtain ⟨hq1, hq⟩ := hq
        have hq1 : r_75 = 1 := hq1
        subst hq1
        obtain rfl := hq
        obtain ⟨hP1, hK1, hD1⟩ := hB
        rw [ht] at hP1
        have hP : va_P (dC, dI) cls2 (mw r cI cZ (b) (va_up (g) 0 (nI (mTh true true false)))) H1 := hP1
        have hD : va_D A (mw r cI cZ (b) (va_up (g) 0 (nI (mTh true true false)))) := hD1.weaken (fun _ _ _ h => hFc _ h)
        generalize H1 = H at hP hS ⊢
        refine lv_if_eq (tgt := 83) hx hb dM_event_78 (by decide) (fun c9 => absurd c9 (by decide)) (fun _ => ?_)
        refine lv_iconst (v := 0) hx hb dM_event_81 (by decide) ?_
        have hT : mEvT b ev tm kd = mTh true true false := by first | (rw [mEvT, c_28, c_38, decide_eq_true c_66]; rfl) | (rw [mEvT, c_28, c_38, decide_eq_false c_66]; rfl) | (rw [mEvT, c_28, decide_eq_true c_66]; rfl) | (rw [mEvT, c_28, decide_eq_false c_66]; rfl)
        rw [← hT] at hP hD
        exact W.iret (v := 0) hx hb hr (fun t ht hW => ⟨⟨0, (b, va_up g 0 (nI (mEvT b ev tm kd))), rfl, ⟨fun h9 => absurd h9 (by rw [hT]; decide), fun _ => rfl⟩, by rw [ht]; exact hP, va_K.moved hW.alike hK, hD⟩, hS.F ht⟩) hS.2.2 dM_event_82
    · refine lv_iload_n hx hb dM_event_31 rfl (lv_at hl 2 rfl) ?_
      refine lv_iconst (v := 0) hx hb dM_event_32 (by decide) ?_
      refine lv_bipush (v := 7) hx hb dM_event_33 (by decide) ?_
      refine vp_callSi (W.runS (As := [.int (kd), .int (0), .int (7)]) (rest := []) ⟨hx, hb, hml, hown, hbw⟩ (tM_in l (kd) (0) (7)) (cwS 3 hbw (bw_S km_M_49 ks_yM_in ki_EventPatternsModel kcM_in) rfl rfl rfl (by decide +kernel) ⟨Nat.le_of_ble_eq_true rfl, Nat.le_of_ble_eq_true rfl⟩) ⟨fun a U g mk q => q, fun U hU hW => ⟨rfl, trivial⟩⟩ rfl rfl hl.1 rfl (lv_room (Nat.le_of_ble_eq_true rfl)) dM_event_35 ⟨Nat.le_of_ble_eq_true rfl, Nat.le_of_ble_eq_true rfl⟩) (fun r_35 hq => ?_)
      subst hq
      refine nr_ifb_eq (tgt := 45) hx hb (b := (iIn (kd) (0) (7))) dM_event_38 (by decide) (fun c_38 => ?_) (fun c_38 => ?_)
      · refine lv_iconst (v := 0) hx hb dM_event_45 (by decide) ?_
        refine lv_istore (lv' := [(4, .int (0)), (0, .ref (r 0)), (1, .int (tm)), (2, .int (kd)), (3, .int (va))]) hx hb dM_event_46 hl (by decide) rfl (fun ls hl => ?_)
        refine lv_aload_n hx hb dM_event_48 rfl (lv_at hl 1 rfl) ?_
        refine lv_iload hx hb dM_event_49 (lv_at hl 0 rfl) ?_
        refine lv_if_ne (tgt := 58) hx hb dM_event_51 (by decide) (fun c9 => absurd c9 (by decide)) (fun _ => ?_)
        refine lv_iconst (v := 1) hx hb dM_event_54 (by decide) ?_
        refine lv_goto (tgt := 59) hx hb dM_event_55 (by decide) ?_
        refine lv_aload_n hx hb dM_event_59 rfl (lv_at hl 1 rfl) ?_
        refine va_get (D := (dC, dI)) (ci := 1) (v := .int (nI (ev))) (C := "EventPatternsModel") (T := TM) (N := 16) hx hb hbw inM hown hK hP 0 rfl rfl 1 (by decide) (hbw _ kf_M_45) (fun _ h9 => h9) (congrArg (fun z => some (Value.int z)) (hg1)) dM_event_60 ?_
        refine lv_sipush (v := 400) hx hb dM_event_63 (by decide) ?_
        refine nr_icmp_ne (tgt := 73) hx hb (a1 := ev) (b1 := 400) (by omega) (by omega) dM_event_66 (by decide) (fun c_66 => ?_) (fun c_66 => ?_)
        · refine lv_iconst (v := 0) hx hb dM_event_73 (by decide) ?_
          refine lv_iconst (v := 0) hx hb dM_event_74 (by decide) ?_
          have hFc := va_free (wc := mw r cI cZ (b) (g)) hD hS hA (List.range 11) rfl
          refine va_calli (va_runV (As := [.int (1), .int (0), .int (0)]) (rest := []) ⟨hx, hb, hml, hown, hbw⟩ (tM_refuse l dC dI r cI cZ cG (b) (g) s.heap.size true false false) (cwV 3 hbw (bw_V km_M_53 ki_yM_refuse ksel_yM_refuse ki_EventPatternsModel kcM_refuse) rfl rfl rfl (by decide +kernel) ⟨Nat.le_of_ble_eq_true rfl, Nat.le_of_ble_eq_true rfl⟩) ⟨fun a U g mk q => by obtain ⟨q0, q1, qP, qK, qD⟩ := q; exact ⟨q0, q1, qP, va_K.moved (u := U) (U := U.calling g mk a) (Vm.Alike.refl U.vm) qK, qD⟩, va_recv hK hP (ci := 1) (q0 := 0) rfl rfl, fun U hU hW => ⟨rfl, by rw [hU], by rw [hU]; exact hP, va_K.moved hW.alike hK, hD.weaken (fun _ _ _ _ => trivial)⟩⟩ rfl rfl hl.1 rfl (lv_room (Nat.le_of_ble_eq_true rfl)) dM_event_75 ⟨Nat.le_of_ble_eq_true rfl, Nat.le_of_ble_eq_true rfl⟩) hS (fun q _ h => hFc q h) hFc (fun r_75 u t H1 locs ht hvm hq hB hz1 hk1 hS => ?_)
          obtain ⟨hq1, hq⟩ := hq
          have hq1 : r_75 = 1 := hq1
          subst hq1
          obtain rfl := hq
          obtain ⟨hP1, hK1, hD1⟩ := hB
          rw [ht] at hP1
          have hP : va_P (dC, dI) cls2 (mw r cI cZ (b) (va_up (g) 0 (nI (mTh true false false)))) H1 := hP1
          have hD : va_D A (mw r cI cZ (b) (va_up (g) 0 (nI (mTh true false false)))) := hD1.weaken (fun _ _ _ h => hFc _ h)
          generalize H1 = H at hP hS ⊢
          refine lv_if_eq (tgt := 83) hx hb dM_event_78 (by decide) (fun c9 => absurd c9 (by decide)) (fun _ => ?_)
          refine lv_iconst (v := 0) hx hb dM_event_81 (by decide) ?_
          have hT : mEvT b ev tm kd = mTh true false false := by first | (rw [mEvT, c_28, c_38, decide_eq_true c_66]; rfl) | (rw [mEvT, c_28, c_38, decide_eq_false c_66]; rfl) | (rw [mEvT, c_28, decide_eq_true c_66]; rfl) | (rw [mEvT, c_28, decide_eq_false c_66]; rfl)
          rw [← hT] at hP hD
          exact W.iret (v := 0) hx hb hr (fun t ht hW => ⟨⟨0, (b, va_up g 0 (nI (mEvT b ev tm kd))), rfl, ⟨fun h9 => absurd h9 (by rw [hT]; decide), fun _ => rfl⟩, by rw [ht]; exact hP, va_K.moved hW.alike hK, hD⟩, hS.F ht⟩) hS.2.2 dM_event_82
        · refine lv_iconst (v := 1) hx hb dM_event_69 (by decide) ?_
          refine lv_goto (tgt := 74) hx hb dM_event_70 (by decide) ?_
          refine lv_iconst (v := 0) hx hb dM_event_74 (by decide) ?_
          have hFc := va_free (wc := mw r cI cZ (b) (g)) hD hS hA (List.range 11) rfl
          refine va_calli (va_runV (As := [.int (1), .int (1), .int (0)]) (rest := []) ⟨hx, hb, hml, hown, hbw⟩ (tM_refuse l dC dI r cI cZ cG (b) (g) s.heap.size true true false) (cwV 3 hbw (bw_V km_M_53 ki_yM_refuse ksel_yM_refuse ki_EventPatternsModel kcM_refuse) rfl rfl rfl (by decide +kernel) ⟨Nat.le_of_ble_eq_true rfl, Nat.le_of_ble_eq_true rfl⟩) ⟨fun a U g mk q => by obtain ⟨q0, q1, qP, qK, qD⟩ := q; exact ⟨q0, q1, qP, va_K.moved (u := U) (U := U.calling g mk a) (Vm.Alike.refl U.vm) qK, qD⟩, va_recv hK hP (ci := 1) (q0 := 0) rfl rfl, fun U hU hW => ⟨rfl, by rw [hU], by rw [hU]; exact hP, va_K.moved hW.alike hK, hD.weaken (fun _ _ _ _ => trivial)⟩⟩ rfl rfl hl.1 rfl (lv_room (Nat.le_of_ble_eq_true rfl)) dM_event_75 ⟨Nat.le_of_ble_eq_true rfl, Nat.le_of_ble_eq_true rfl⟩) hS (fun q _ h => hFc q h) hFc (fun r_75 u t H1 locs ht hvm hq hB hz1 hk1 hS => ?_)
          obtain ⟨hq1, hq⟩ := hq
          have hq1 : r_75 = 1 := hq1
          subst hq1
          obtain rfl := hq
          obtain ⟨hP1, hK1, hD1⟩ := hB
          rw [ht] at hP1
          have hP : va_P (dC, dI) cls2 (mw r cI cZ (b) (va_up (g) 0 (nI (mTh true true false)))) H1 := hP1
          have hD : va_D A (mw r cI cZ (b) (va_up (g) 0 (nI (mTh true true false)))) := hD1.weaken (fun _ _ _ h => hFc _ h)
          generalize H1 = H at hP hS ⊢
          refine lv_if_eq (tgt := 83) hx hb dM_event_78 (by decide) (fun c9 => absurd c9 (by decide)) (fun _ => ?_)
          refine lv_iconst (v := 0) hx hb dM_event_81 (by decide) ?_
          have hT : mEvT b ev tm kd = mTh true true false := by first | (rw [mEvT, c_28, c_38, decide_eq_true c_66]; rfl) | (rw [mEvT, c_28, c_38, decide_eq_false c_66]; rfl) | (rw [mEvT, c_28, decide_eq_true c_66]; rfl) | (rw [mEvT, c_28, decide_eq_false c_66]; rfl)
          rw [← hT] at hP hD
          exact W.iret (v := 0) hx hb hr (fun t ht hW => ⟨⟨0, (b, va_up g 0 (nI (mEvT b ev tm kd))), rfl, ⟨fun h9 => absurd h9 (by rw [hT]; decide), fun _ => rfl⟩, by rw [ht]; exact hP, va_K.moved hW.alike hK, hD⟩, hS.F ht⟩) hS.2.2 dM_event_82
      · refine lv_iconst (v := 1) hx hb dM_event_41 (by decide) ?_
        refine lv_goto (tgt := 46) hx hb dM_event_42 (by decide) ?_
        refine lv_istore (lv' := [(4, .int (1)), (0, .ref (r 0)), (1, .int (tm)), (2, .int (kd)), (3, .int (va))]) hx hb dM_event_46 hl (by decide) rfl (fun ls hl => ?_)
        refine lv_aload_n hx hb dM_event_48 rfl (lv_at hl 1 rfl) ?_
        refine lv_iload hx hb dM_event_49 (lv_at hl 0 rfl) ?_
        refine lv_if_ne (tgt := 58) hx hb dM_event_51 (by decide) (fun _ => ?_) (fun c9 => absurd c9 (by decide))
        refine lv_iconst (v := 0) hx hb dM_event_58 (by decide) ?_
        refine lv_aload_n hx hb dM_event_59 rfl (lv_at hl 1 rfl) ?_
        refine va_get (D := (dC, dI)) (ci := 1) (v := .int (nI (ev))) (C := "EventPatternsModel") (T := TM) (N := 16) hx hb hbw inM hown hK hP 0 rfl rfl 1 (by decide) (hbw _ kf_M_45) (fun _ h9 => h9) (congrArg (fun z => some (Value.int z)) (hg1)) dM_event_60 ?_
        refine lv_sipush (v := 400) hx hb dM_event_63 (by decide) ?_
        refine nr_icmp_ne (tgt := 73) hx hb (a1 := ev) (b1 := 400) (by omega) (by omega) dM_event_66 (by decide) (fun c_66 => ?_) (fun c_66 => ?_)
        · refine lv_iconst (v := 0) hx hb dM_event_73 (by decide) ?_
          refine lv_iconst (v := 0) hx hb dM_event_74 (by decide) ?_
          have hFc := va_free (wc := mw r cI cZ (b) (g)) hD hS hA (List.range 11) rfl
          refine va_calli (va_runV (As := [.int (0), .int (0), .int (0)]) (rest := []) ⟨hx, hb, hml, hown, hbw⟩ (tM_refuse l dC dI r cI cZ cG (b) (g) s.heap.size false false false) (cwV 3 hbw (bw_V km_M_53 ki_yM_refuse ksel_yM_refuse ki_EventPatternsModel kcM_refuse) rfl rfl rfl (by decide +kernel) ⟨Nat.le_of_ble_eq_true rfl, Nat.le_of_ble_eq_true rfl⟩) ⟨fun a U g mk q => by obtain ⟨q0, q1, qP, qK, qD⟩ := q; exact ⟨q0, q1, qP, va_K.moved (u := U) (U := U.calling g mk a) (Vm.Alike.refl U.vm) qK, qD⟩, va_recv hK hP (ci := 1) (q0 := 0) rfl rfl, fun U hU hW => ⟨rfl, by rw [hU], by rw [hU]; exact hP, va_K.moved hW.alike hK, hD.weaken (fun _ _ _ _ => trivial)⟩⟩ rfl rfl hl.1 rfl (lv_room (Nat.le_of_ble_eq_true rfl)) dM_event_75 ⟨Nat.le_of_ble_eq_true rfl, Nat.le_of_ble_eq_true rfl⟩) hS (fun q _ h => hFc q h) hFc (fun r_75 u t H1 locs ht hvm hq hB hz1 hk1 hS => ?_)
          obtain ⟨hq1, hq⟩ := hq
          have hq1 : r_75 = 0 := hq1
          subst hq1
          obtain rfl := hq
          obtain ⟨hP1, hK1, hD1⟩ := hB
          rw [ht] at hP1
          have hP : va_P (dC, dI) cls2 (mw r cI cZ (b) (va_up (g) 0 (nI (mTh false false false)))) H1 := hP1
          have hD : va_D A (mw r cI cZ (b) (va_up (g) 0 (nI (mTh false false false)))) := hD1.weaken (fun _ _ _ h => hFc _ h)
          generalize H1 = H at hP hS ⊢
          refine lv_if_eq (tgt := 83) hx hb dM_event_78 (by decide) (fun _ => ?_) (fun c9 => absurd c9 (by decide))
          refine lv_aload_n hx hb dM_event_83 rfl (lv_at hl 1 rfl) ?_
          refine va_get (D := (dC, dI)) (ci := 1) (v := .ref (r 1)) (C := "EventPatternsModel") (T := TM) (N := 16) hx hb hbw inM hown hK hP 0 rfl rfl 2 (by decide) (hbw _ kf_M_7) (fun _ h9 => h9) rfl dM_event_84 ?_
          refine lv_aload_n hx hb dM_event_87 rfl (lv_at hl 1 rfl) ?_
          refine va_get (D := (dC, dI)) (ci := 1) (v := .int (nI (ev))) (C := "EventPatternsModel") (T := TM) (N := 16) hx hb hbw inM hown hK hP 0 rfl rfl 1 (by decide) (hbw _ kf_M_45) (fun _ h9 => h9) (congrArg (fun z => some (Value.int z)) (hg1)) dM_event_88 ?_
          refine lv_iload_n hx hb dM_event_91 rfl (lv_at hl 2 rfl) ?_
          refine nr_iast hx hb hK hP hD hS 1 0 rfl rfl (j := ev) (by omega) (by decide) dM_event_92 (fun H locs hP hD hS => ?_)
          have hP : va_P (dC, dI) cls2 (mw r cI cZ (va_up (b) 0 (upd (b 0) (ev) (tm))) (va_up (g) 0 (nI (mTh false false false)))) H := hP
          have hD : va_D A (mw r cI cZ (va_up (b) 0 (upd (b 0) (ev) (tm))) (va_up (g) 0 (nI (mTh false false false)))) := hD
          refine lv_aload_n hx hb dM_event_93 rfl (lv_at hl 1 rfl) ?_
          refine va_get (D := (dC, dI)) (ci := 1) (v := .ref (r 2)) (C := "EventPatternsModel") (T := TM) (N := 16) hx hb hbw inM hown hK hP 0 rfl rfl 3 (by decide) (hbw _ kf_M_13) (fun _ h9 => h9) rfl dM_event_94 ?_
          refine lv_aload_n hx hb dM_event_97 rfl (lv_at hl 1 rfl) ?_
          refine va_get (D := (dC, dI)) (ci := 1) (v := .int (nI (ev))) (C := "EventPatternsModel") (T := TM) (N := 16) hx hb hbw inM hown hK hP 0 rfl rfl 1 (by decide) (hbw _ kf_M_45) (fun _ h9 => h9) (congrArg (fun z => some (Value.int z)) (hg1)) dM_event_98 ?_
          refine lv_iload_n hx hb dM_event_101 rfl (lv_at hl 3 rfl) ?_
          refine nr_iast hx hb hK hP hD hS 2 0 rfl rfl (j := ev) (by omega) (by decide) dM_event_102 (fun H locs hP hD hS => ?_)
          have hP : va_P (dC, dI) cls2 (mw r cI cZ (va_up (va_up (b) 0 (upd (b 0) (ev) (tm))) 1 (upd (b 1) (ev) (kd))) (va_up (g) 0 (nI (mTh false false false)))) H := hP
          have hD : va_D A (mw r cI cZ (va_up (va_up (b) 0 (upd (b 0) (ev) (tm))) 1 (upd (b 1) (ev) (kd))) (va_up (g) 0 (nI (mTh false false false)))) := hD
          refine lv_aload_n hx hb dM_event_103 rfl (lv_at hl 1 rfl) ?_
          refine va_get (D := (dC, dI)) (ci := 1) (v := .ref (r 3)) (C := "EventPatternsModel") (T := TM) (N := 16) hx hb hbw inM hown hK hP 0 rfl rfl 4 (by decide) (hbw _ kf_M_16) (fun _ h9 => h9) rfl dM_event_104 ?_
          refine lv_aload_n hx hb dM_event_107 rfl (lv_at hl 1 rfl) ?_
          refine va_get (D := (dC, dI)) (ci := 1) (v := .int (nI (ev))) (C := "EventPatternsModel") (T := TM) (N := 16) hx hb hbw inM hown hK hP 0 rfl rfl 1 (by decide) (hbw _ kf_M_45) (fun _ h9 => h9) (congrArg (fun z => some (Value.int z)) (hg1)) dM_event_108 ?_
          refine lv_iload_n hx hb dM_event_111 rfl (lv_at hl 4 rfl) ?_
          refine nr_iast hx hb hK hP hD hS 3 0 rfl rfl (j := ev) (by omega) (by decide) dM_event_112 (fun H locs hP hD hS => ?_)
          have hP : va_P (dC, dI) cls2 (mw r cI cZ (va_up (va_up (va_up (b) 0 (upd (b 0) (ev) (tm))) 1 (upd (b 1) (ev) (kd))) 2 (upd (b 2) (ev) (va))) (va_up (g) 0 (nI (mTh false false false)))) H := hP
          have hD : va_D A (mw r cI cZ (va_up (va_up (va_up (b) 0 (upd (b 0) (ev) (tm))) 1 (upd (b 1) (ev) (kd))) 2 (upd (b 2) (ev) (va))) (va_up (g) 0 (nI (mTh false false false)))) := hD
          refine lv_aload_n hx hb dM_event_113 rfl (lv_at hl 1 rfl) ?_
          refine lv_dup hx hb dM_event_114 rfl ?_
          refine va_get (D := (dC, dI)) (ci := 1) (v := .int (nI (ev))) (C := "EventPatternsModel") (T := TM) (N := 16) hx hb hbw inM hown hK hP 0 rfl rfl 1 (by decide) (hbw _ kf_M_45) (fun _ h9 => h9) (congrArg (fun z => some (Value.int z)) (hg1)) dM_event_115 ?_
          refine lv_iconst (v := 1) hx hb dM_event_118 (by decide) ?_
          refine nr_iadd hx hb (a1 := ev) (b1 := 1) dM_event_119 ?_
          refine va_put (D := (dC, dI)) (ci := 1) (v := .int (nI (ev + 1))) (ty := .int) (C := "EventPatternsModel") (T := TM) (N := 16) hx hb hbw inM tyM okM nmM hown hK hP hD hS 0 rfl rfl 1 (by decide) (hbw _ kf_M_45) (fun _ h9 => h9) rfl (by decide +kernel) rfl rfl (Nat.le_of_ble_eq_true rfl) dM_event_120 (fun H locs hP hD hS => ?_)
          have hP : va_P (dC, dI) cls2 (mw r cI cZ (va_up (va_up (va_up (b) 0 (upd (b 0) (ev) (tm))) 1 (upd (b 1) (ev) (kd))) 2 (upd (b 2) (ev) (va))) (va_up (va_up (g) 0 (nI (mTh false false false))) 1 (nI (ev + 1)))) H := hP
          have hD : va_D A (mw r cI cZ (va_up (va_up (va_up (b) 0 (upd (b 0) (ev) (tm))) 1 (upd (b 1) (ev) (kd))) 2 (upd (b 2) (ev) (va))) (va_up (va_up (g) 0 (nI (mTh false false false))) 1 (nI (ev + 1)))) := hD
          refine lv_aload_n hx hb dM_event_123 rfl (lv_at hl 1 rfl) ?_
          refine va_get (D := (dC, dI)) (ci := 1) (v := .int (nI (ev + 1))) (C := "EventPatternsModel") (T := TM) (N := 16) hx hb hbw inM hown hK hP 0 rfl rfl 1 (by decide) (hbw _ kf_M_45) (fun _ h9 => h9) rfl dM_event_124 ?_
          refine lv_iconst (v := 1) hx hb dM_event_127 (by decide) ?_
          refine nr_isub hx hb (a1 := ev + 1) (b1 := 1) (by omega) dM_event_128 ?_
          have hT : mEvT b ev tm kd = 0 := by first | (rw [mEvT, c_28, c_38, decide_eq_true c_66]; rfl) | (rw [mEvT, c_28, c_38, decide_eq_false c_66]; rfl) | (rw [mEvT, c_28, decide_eq_true c_66]; rfl) | (rw [mEvT, c_28, decide_eq_false c_66]; rfl)
          exact W.iret (v := nI ((ev + 1) - 1)) hx hb hr (fun t ht hW => ⟨⟨nI ((ev + 1) - 1), (mEvB b ev tm kd va, va_up (va_up g 0 (nI (mTh false false false))) 1 (nI (ev + 1))), rfl, ⟨fun _ => ⟨by rw [Nat.add_sub_cancel], rfl⟩, fun h9 => absurd hT h9⟩, by rw [ht]; exact hP, va_K.moved hW.alike hK, hD⟩, hS.F ht⟩) hS.2.2 dM_event_129
        · refine lv_iconst (v := 1) hx hb dM_event_69 (by decide) ?_
          refine lv_goto (tgt := 74) hx hb dM_event_70 (by decide) ?_
          refine lv_iconst (v := 0) hx hb dM_event_74 (by decide) ?_
          have hFc := va_free (wc := mw r cI cZ (b) (g)) hD hS hA (List.range 11) rfl
          refine va_calli (va_runV (As := [.int (0), .int (1), .int (0)]) (rest := []) ⟨hx, hb, hml, hown, hbw⟩ (tM_refuse l dC dI r cI cZ cG (b) (g) s.heap.size false true false) (cwV 3 hbw (bw_V km_M_53 ki_yM_refuse ksel_yM_refuse ki_EventPatternsModel kcM_refuse) rfl rfl rfl (by decide +kernel) ⟨Nat.le_of_ble_eq_true rfl, Nat.le_of_ble_eq_true rfl⟩) ⟨fun a U g mk q => by obtain ⟨q0, q1, qP, qK, qD⟩ := q; exact ⟨q0, q1, qP, va_K.moved (u := U) (U := U.calling g mk a) (Vm.Alike.refl U.vm) qK, qD⟩, va_recv hK hP (ci := 1) (q0 := 0) rfl rfl, fun U hU hW => ⟨rfl, by rw [hU], by rw [hU]; exact hP, va_K.moved hW.alike hK, hD.weaken (fun _ _ _ _ => trivial)⟩⟩ rfl rfl hl.1 rfl (lv_room (Nat.le_of_ble_eq_true rfl)) dM_event_75 ⟨Nat.le_of_ble_eq_true rfl, Nat.le_of_ble_eq_true rfl⟩) hS (fun q _ h => hFc q h) hFc (fun r_75 u t H1 locs ht hvm hq hB hz1 hk1 hS => ?_)
          obtain ⟨hq1, hq⟩ := hq
          have hq1 : r_75 = 1 := hq1
          subst hq1
          obtain rfl := hq
          obtain ⟨hP1, hK1, hD1⟩ := hB
          rw [ht] at hP1
          have hP : va_P (dC, dI) cls2 (mw r cI cZ (b) (va_up (g) 0 (nI (mTh false true false)))) H1 := hP1
          have hD : va_D A (mw r cI cZ (b) (va_up (g) 0 (nI (mTh false true false)))) := hD1.weaken (fun _ _ _ h => hFc _ h)
          generalize H1 = H at hP hS ⊢
          refine lv_if_eq (tgt := 83) hx hb dM_event_78 (by decide) (fun c9 => absurd c9 (by decide)) (fun _ => ?_)
          refine lv_iconst (v := 0) hx hb dM_event_81 (by decide) ?_
          have hT : mEvT b ev tm kd = mTh false true false := by first | (rw [mEvT, c_28, c_38, decide_eq_true c_66]; rfl) | (rw [mEvT, c_28, c_38, decide_eq_false c_66]; rfl) | (rw [mEvT, c_28, decide_eq_true c_66]; rfl) | (rw [mEvT, c_28, decide_eq_false c_66]; rfl)
          rw [← hT] at hP hD
          exact W.iret (v := 0) hx hb hr (fun t ht hW => ⟨⟨0, (b, va_up g 0 (nI (mEvT b ev tm kd))), rfl, ⟨fun h9 => absurd h9 (by rw [hT]; decide), fun _ => rfl⟩, by rw [ht]; exact hP, va_K.moved hW.alike hK, hD⟩, hS.F ht⟩) hS.2.2 dM_event_82
  · refine lv_aload_n hx hb dM_event_8 rfl (lv_at hl 0 rfl) ?_
    refine va_get (D := (dC, dI)) (ci := 1) (v := .ref (r 1)) (C := "EventPatternsModel") (T := TM) (N := 16) hx hb hbw inM hown hK hP 0 rfl rfl 2 (by decide) (hbw _ kf_M_7) (fun _ h9 => h9) rfl dM_event_9 ?_
    refine lv_aload_n hx hb dM_event_12 rfl (lv_at hl 0 rfl) ?_
    refine va_get (D := (dC, dI)) (ci := 1) (v := .int (nI (ev))) (C := "EventPatternsModel") (T := TM) (N := 16) hx hb hbw inM hown hK hP 0 rfl rfl 1 (by decide) (hbw _ kf_M_45) (fun _ h9 => h9) (congrArg (fun z => some (Value.int z)) (hg1)) dM_event_13 ?_
    refine lv_iconst (v := 1) hx hb dM_event_16 (by decide) ?_
    refine nr_isub hx hb (a1 := ev) (b1 := 1) (by omega) dM_event_17 ?_
    refine nr_iald hx hb hK hP 1 0 rfl rfl (j := ev - 1) (by omega) (by decide) dM_event_18 ?_
    refine lv_goto (tgt := 23) hx hb dM_event_19 (by decide) ?_
    refine W.eq (g2 := F0 m 23 ls [.int (mLate b ev), .int (tm)]) (by first | rw [mLate, if_pos (by omega)] | rw [mLate, if_neg (by omega)]) ?_
    refine lv_ldc (v := 1000000) hx hb hown (hbw _ kk_M_48) dM_event_23 ?_
    refine vp_callSi (W.runS (As := [.int (tm), .int (mLate b ev), .int (1000000)]) (rest := []) ⟨hx, hb, hml, hown, hbw⟩ (tM_in l (tm) (mLate b ev) (1000000)) (cwS 3 hbw (bw_S km_M_49 ks_yM_in ki_EventPatternsModel kcM_in) rfl rfl rfl (by decide +kernel) ⟨Nat.le_of_ble_eq_true rfl, Nat.le_of_ble_eq_true rfl⟩) ⟨fun a U g mk q => q, fun U hU hW => ⟨rfl, trivial⟩⟩ rfl rfl hl.1 rfl (lv_room (Nat.le_of_ble_eq_true rfl)) dM_event_25 ⟨Nat.le_of_ble_eq_true rfl, Nat.le_of_ble_eq_true rfl⟩) (fun r_25 hq => ?_)
    subst hq
    refine nr_ifb_eq (tgt := 45) hx hb (b := (iIn (tm) (mLate b ev) (1000000))) dM_event_28 (by decide) (fun c_28 => ?_) (fun c_28 => ?_)
    · refine lv_iconst (v := 0) hx hb dM_event_45 (by decide) ?_
      refine lv_istore (lv' := [(4, .int (0)), (0, .ref (r 0)), (1, .int (tm)), (2, .int (kd)), (3, .int (va))]) hx hb dM_event_46 hl (by decide) rfl (fun ls hl => ?_)
      refine lv_aload_n hx hb dM_event_48 rfl (lv_at hl 1 rfl) ?_
      refine lv_iload hx hb dM_event_49 (lv_at hl 0 rfl) ?_
      refine lv_if_ne (tgt := 58) hx hb dM_event_51 (by decide) (fun c9 => absurd c9 (by decide)) (fun _ => ?_)
      refine lv_iconst (v := 1) hx hb dM_event_54 (by decide) ?_
      refine lv_goto (tgt := 59) hx hb dM_event_55 (by decide) ?_
      refine lv_aload_n hx hb dM_event_59 rfl (lv_at hl 1 rfl) ?_
      refine va_get (D := (dC, dI)) (ci := 1) (v := .int (nI (ev))) (C := "EventPatternsModel") (T := TM) (N := 16) hx hb hbw inM hown hK hP 0 rfl rfl 1 (by decide) (hbw _ kf_M_45) (fun _ h9 => h9) (congrArg (fun z => some (Value.int z)) (hg1)) dM_event_60 ?_
      refine lv_sipush (v := 400) hx hb dM_event_63 (by decide) ?_
      refine nr_icmp_ne (tgt := 73) hx hb (a1 := ev) (b1 := 400) (by omega) (by omega) dM_event_66 (by decide) (fun c_66 => ?_) (fun c_66 => ?_)
      · refine lv_iconst (v := 0) hx hb dM_event_73 (by decide) ?_
        refine lv_iconst (v := 0) hx hb dM_event_74 (by decide) ?_
        have hFc := va_free (wc := mw r cI cZ (b) (g)) hD hS hA (List.range 11) rfl
        refine va_calli (va_runV (As := [.int (1), .int (0), .int (0)]) (rest := []) ⟨hx, hb, hml, hown, hbw⟩ (tM_refuse l dC dI r cI cZ cG (b) (g) s.heap.size true false false) (cwV 3 hbw (bw_V km_M_53 ki_yM_refuse ksel_yM_refuse ki_EventPatternsModel kcM_refuse) rfl rfl rfl (by decide +kernel) ⟨Nat.le_of_ble_eq_true rfl, Nat.le_of_ble_eq_true rfl⟩) ⟨fun a U g mk q => by obtain ⟨q0, q1, qP, qK, qD⟩ := q; exact ⟨q0, q1, qP, va_K.moved (u := U) (U := U.calling g mk a) (Vm.Alike.refl U.vm) qK, qD⟩, va_recv hK hP (ci := 1) (q0 := 0) rfl rfl, fun U hU hW => ⟨rfl, by rw [hU], by rw [hU]; exact hP, va_K.moved hW.alike hK, hD.weaken (fun _ _ _ _ => trivial)⟩⟩ rfl rfl hl.1 rfl (lv_room (Nat.le_of_ble_eq_true rfl)) dM_event_75 ⟨Nat.le_of_ble_eq_true rfl, Nat.le_of_ble_eq_true rfl⟩) hS (fun q _ h => hFc q h) hFc (fun r_75 u t H1 locs ht hvm hq hB hz1 hk1 hS => ?_)
        obtain ⟨hq1, hq⟩ := hq
        have hq1 : r_75 = 1 := hq1
        subst hq1
        obtain rfl := hq
        obtain ⟨hP1, hK1, hD1⟩ := hB
        rw [ht] at hP1
        have hP : va_P (dC, dI) cls2 (mw r cI cZ (b) (va_up (g) 0 (nI (mTh true false false)))) H1 := hP1
        have hD : va_D A (mw r cI cZ (b) (va_up (g) 0 (nI (mTh true false false)))) := hD1.weaken (fun _ _ _ h => hFc _ h)
        generalize H1 = H at hP hS ⊢
        refine lv_if_eq (tgt := 83) hx hb dM_event_78 (by decide) (fun c9 => absurd c9 (by decide)) (fun _ => ?_)
        refine lv_iconst (v := 0) hx hb dM_event_81 (by decide) ?_
        have hT : mEvT b ev tm kd = mTh true false false := by first | (rw [mEvT, c_28, c_38, decide_eq_true c_66]; rfl) | (rw [mEvT, c_28, c_38, decide_eq_false c_66]; rfl) | (rw [mEvT, c_28, decide_eq_true c_66]; rfl) | (rw [mEvT, c_28, decide_eq_false c_66]; rfl)
        rw [← hT] at hP hD
        exact W.iret (v := 0) hx hb hr (fun t ht hW => ⟨⟨0, (b, va_up g 0 (nI (mEvT b ev tm kd))), rfl, ⟨fun h9 => absurd h9 (by rw [hT]; decide), fun _ => rfl⟩, by rw [ht]; exact hP, va_K.moved hW.alike hK, hD⟩, hS.F ht⟩) hS.2.2 dM_event_82
      · refine lv_iconst (v := 1) hx hb dM_event_69 (by decide) ?_
        refine lv_goto (tgt := 74) hx hb dM_event_70 (by decide) ?_
        refine lv_iconst (v := 0) hx hb dM_event_74 (by decide) ?_
        have hFc := va_free (wc := mw r cI cZ (b) (g)) hD hS hA (List.range 11) rfl
        refine va_calli (va_runV (As := [.int (1), .int (1), .int (0)]) (rest := []) ⟨hx, hb, hml, hown, hbw⟩ (tM_refuse l dC dI r cI cZ cG (b) (g) s.heap.size true true false) (cwV 3 hbw (bw_V km_M_53 ki_yM_refuse ksel_yM_refuse ki_EventPatternsModel kcM_refuse) rfl rfl rfl (by decide +kernel) ⟨Nat.le_of_ble_eq_true rfl, Nat.le_of_ble_eq_true rfl⟩) ⟨fun a U g mk q => by obtain ⟨q0, q1, qP, qK, qD⟩ := q; exact ⟨q0, q1, qP, va_K.moved (u := U) (U := U.calling g mk a) (Vm.Alike.refl U.vm) qK, qD⟩, va_recv hK hP (ci := 1) (q0 := 0) rfl rfl, fun U hU hW => ⟨rfl, by rw [hU], by rw [hU]; exact hP, va_K.moved hW.alike hK, hD.weaken (fun _ _ _ _ => trivial)⟩⟩ rfl rfl hl.1 rfl (lv_room (Nat.le_of_ble_eq_true rfl)) dM_event_75 ⟨Nat.le_of_ble_eq_true rfl, Nat.le_of_ble_eq_true rfl⟩) hS (fun q _ h => hFc q h) hFc (fun r_75 u t H1 locs ht hvm hq hB hz1 hk1 hS => ?_)
        obtain ⟨hq1, hq⟩ := hq
        have hq1 : r_75 = 1 := hq1
        subst hq1
        obtain rfl := hq
        obtain ⟨hP1, hK1, hD1⟩ := hB
        rw [ht] at hP1
        have hP : va_P (dC, dI) cls2 (mw r cI cZ (b) (va_up (g) 0 (nI (mTh true true false)))) H1 := hP1
        have hD : va_D A (mw r cI cZ (b) (va_up (g) 0 (nI (mTh true true false)))) := hD1.weaken (fun _ _ _ h => hFc _ h)
        generalize H1 = H at hP hS ⊢
        refine lv_if_eq (tgt := 83) hx hb dM_event_78 (by decide) (fun c9 => absurd c9 (by decide)) (fun _ => ?_)
        refine lv_iconst (v := 0) hx hb dM_event_81 (by decide) ?_
        have hT : mEvT b ev tm kd = mTh true true false := by first | (rw [mEvT, c_28, c_38, decide_eq_true c_66]; rfl) | (rw [mEvT, c_28, c_38, decide_eq_false c_66]; rfl) | (rw [mEvT, c_28, decide_eq_true c_66]; rfl) | (rw [mEvT, c_28, decide_eq_false c_66]; rfl)
        rw [← hT] at hP hD
        exact W.iret (v := 0) hx hb hr (fun t ht hW => ⟨⟨0, (b, va_up g 0 (nI (mEvT b ev tm kd))), rfl, ⟨fun h9 => absurd h9 (by rw [hT]; decide), fun _ => rfl⟩, by rw [ht]; exact hP, va_K.moved hW.alike hK, hD⟩, hS.F ht⟩) hS.2.2 dM_event_82
    · refine lv_iload_n hx hb dM_event_31 rfl (lv_at hl 2 rfl) ?_
      refine lv_iconst (v := 0) hx hb dM_event_32 (by decide) ?_
      refine lv_bipush (v := 7) hx hb dM_event_33 (by decide) ?_
      refine vp_callSi (W.runS (As := [.int (kd), .int (0), .int (7)]) (rest := []) ⟨hx, hb, hml, hown, hbw⟩ (tM_in l (kd) (0) (7)) (cwS 3 hbw (bw_S km_M_49 ks_yM_in ki_EventPatternsModel kcM_in) rfl rfl rfl (by decide +kernel) ⟨Nat.le_of_ble_eq_true rfl, Nat.le_of_ble_eq_true rfl⟩) ⟨fun a U g mk q => q, fun U hU hW => ⟨rfl, trivial⟩⟩ rfl rfl hl.1 rfl (lv_room (Nat.le_of_ble_eq_true rfl)) dM_event_35 ⟨Nat.le_of_ble_eq_true rfl, Nat.le_of_ble_eq_true rfl⟩) (fun r_35 hq => ?_)
      subst hq
      refine nr_ifb_eq (tgt := 45) hx hb (b := (iIn (kd) (0) (7))) dM_event_38 (by decide) (fun c_38 => ?_) (fun c_38 => ?_)
      · refine lv_iconst (v := 0) hx hb dM_event_45 (by decide) ?_
        refine lv_istore (lv' := [(4, .int (0)), (0, .ref (r 0)), (1, .int (tm)), (2, .int (kd)), (3, .int (va))]) hx hb dM_event_46 hl (by decide) rfl (fun ls hl => ?_)
        refine lv_aload_n hx hb dM_event_48 rfl (lv_at hl 1 rfl) ?_
        refine lv_iload hx hb dM_event_49 (lv_at hl 0 rfl) ?_
        refine lv_if_ne (tgt := 58) hx hb dM_event_51 (by decide) (fun c9 => absurd c9 (by decide)) (fun _ => ?_)
        refine lv_iconst (v := 1) hx hb dM_event_54 (by decide) ?_
        refine lv_goto (tgt := 59) hx hb dM_event_55 (by decide) ?_
        refine lv_aload_n hx hb dM_event_59 rfl (lv_at hl 1 rfl) ?_
        refine va_get (D := (dC, dI)) (ci := 1) (v := .int (nI (ev))) (C := "EventPatternsModel") (T := TM) (N := 16) hx hb hbw inM hown hK hP 0 rfl rfl 1 (by decide) (hbw _ kf_M_45) (fun _ h9 => h9) (congrArg (fun z => some (Value.int z)) (hg1)) dM_event_60 ?_
        refine lv_sipush (v := 400) hx hb dM_event_63 (by decide) ?_
        refine nr_icmp_ne (tgt := 73) hx hb (a1 := ev) (b1 := 400) (by omega) (by omega) dM_event_66 (by decide) (fun c_66 => ?_) (fun c_66 => ?_)
        · refine lv_iconst (v := 0) hx hb dM_event_73 (by decide) ?_
          refine lv_iconst (v := 0) hx hb dM_event_74 (by decide) ?_
          have hFc := va_free (wc := mw r cI cZ (b) (g)) hD hS hA (List.range 11) rfl
          refine va_calli (va_runV (As := [.int (1), .int (0), .int (0)]) (rest := []) ⟨hx, hb, hml, hown, hbw⟩ (tM_refuse l dC dI r cI cZ cG (b) (g) s.heap.size true false false) (cwV 3 hbw (bw_V km_M_53 ki_yM_refuse ksel_yM_refuse ki_EventPatternsModel kcM_refuse) rfl rfl rfl (by decide +kernel) ⟨Nat.le_of_ble_eq_true rfl, Nat.le_of_ble_eq_true rfl⟩) ⟨fun a U g mk q => by obtain ⟨q0, q1, qP, qK, qD⟩ := q; exact ⟨q0, q1, qP, va_K.moved (u := U) (U := U.calling g mk a) (Vm.Alike.refl U.vm) qK, qD⟩, va_recv hK hP (ci := 1) (q0 := 0) rfl rfl, fun U hU hW => ⟨rfl, by rw [hU], by rw [hU]; exact hP, va_K.moved hW.alike hK, hD.weaken (fun _ _ _ _ => trivial)⟩⟩ rfl rfl hl.1 rfl (lv_room (Nat.le_of_ble_eq_true rfl)) dM_event_75 ⟨Nat.le_of_ble_eq_true rfl, Nat.le_of_ble_eq_true rfl⟩) hS (fun q _ h => hFc q h) hFc (fun r_75 u t H1 locs ht hvm hq hB hz1 hk1 hS => ?_)
          obtain ⟨hq1, hq⟩ := hq
          have hq1 : r_75 = 1 := hq1
          subst hq1
          obtain rfl := hq
          obtain ⟨hP1, hK1, hD1⟩ := hB
          rw [ht] at hP1
          have hP : va_P (dC, dI) cls2 (mw r cI cZ (b) (va_up (g) 0 (nI (mTh true false false)))) H1 := hP1
          have hD : va_D A (mw r cI cZ (b) (va_up (g) 0 (nI (mTh true false false)))) := hD1.weaken (fun _ _ _ h => hFc _ h)
          generalize H1 = H at hP hS ⊢
          refine lv_if_eq (tgt := 83) hx hb dM_event_78 (by decide) (fun c9 => absurd c9 (by decide)) (fun _ => ?_)
          refine lv_iconst (v := 0) hx hb dM_event_81 (by decide) ?_
          have hT : mEvT b ev tm kd = mTh true false false := by first | (rw [mEvT, c_28, c_38, decide_eq_true c_66]; rfl) | (rw [mEvT, c_28, c_38, decide_eq_false c_66]; rfl) | (rw [mEvT, c_28, decide_eq_true c_66]; rfl) | (rw [mEvT, c_28, decide_eq_false c_66]; rfl)
          rw [← hT] at hP hD
          exact W.iret (v := 0) hx hb hr (fun t ht hW => ⟨⟨0, (b, va_up g 0 (nI (mEvT b ev tm kd))), rfl, ⟨fun h9 => absurd h9 (by rw [hT]; decide), fun _ => rfl⟩, by rw [ht]; exact hP, va_K.moved hW.alike hK, hD⟩, hS.F ht⟩) hS.2.2 dM_event_82
        · refine lv_iconst (v := 1) hx hb dM_event_69 (by decide) ?_
          refine lv_goto (tgt := 74) hx hb dM_event_70 (by decide) ?_
          refine lv_iconst (v := 0) hx hb dM_event_74 (by decide) ?_
          have hFc := va_free (wc := mw r cI cZ (b) (g)) hD hS hA (List.range 11) rfl
          refine va_calli (va_runV (As := [.int (1), .int (1), .int (0)]) (rest := []) ⟨hx, hb, hml, hown, hbw⟩ (tM_refuse l dC dI r cI cZ cG (b) (g) s.heap.size true true false) (cwV 3 hbw (bw_V km_M_53 ki_yM_refuse ksel_yM_refuse ki_EventPatternsModel kcM_refuse) rfl rfl rfl (by decide +kernel) ⟨Nat.le_of_ble_eq_true rfl, Nat.le_of_ble_eq_true rfl⟩) ⟨fun a U g mk q => by obtain ⟨q0, q1, qP, qK, qD⟩ := q; exact ⟨q0, q1, qP, va_K.moved (u := U) (U := U.calling g mk a) (Vm.Alike.refl U.vm) qK, qD⟩, va_recv hK hP (ci := 1) (q0 := 0) rfl rfl, fun U hU hW => ⟨rfl, by rw [hU], by rw [hU]; exact hP, va_K.moved hW.alike hK, hD.weaken (fun _ _ _ _ => trivial)⟩⟩ rfl rfl hl.1 rfl (lv_room (Nat.le_of_ble_eq_true rfl)) dM_event_75 ⟨Nat.le_of_ble_eq_true rfl, Nat.le_of_ble_eq_true rfl⟩) hS (fun q _ h => hFc q h) hFc (fun r_75 u t H1 locs ht hvm hq hB hz1 hk1 hS => ?_)
          obtain ⟨hq1, hq⟩ := hq
          have hq1 : r_75 = 1 := hq1
          subst hq1
          obtain rfl := hq
          obtain ⟨hP1, hK1, hD1⟩ := hB
          rw [ht] at hP1
          have hP : va_P (dC, dI) cls2 (mw r cI cZ (b) (va_up (g) 0 (nI (mTh true true false)))) H1 := hP1
          have hD : va_D A (mw r cI cZ (b) (va_up (g) 0 (nI (mTh true true false)))) := hD1.weaken (fun _ _ _ h => hFc _ h)
          generalize H1 = H at hP hS ⊢
          refine lv_if_eq (tgt := 83) hx hb dM_event_78 (by decide) (fun c9 => absurd c9 (by decide)) (fun _ => ?_)
          refine lv_iconst (v := 0) hx hb dM_event_81 (by decide) ?_
          have hT : mEvT b ev tm kd = mTh true true false := by first | (rw [mEvT, c_28, c_38, decide_eq_true c_66]; rfl) | (rw [mEvT, c_28, c_38, decide_eq_false c_66]; rfl) | (rw [mEvT, c_28, decide_eq_true c_66]; rfl) | (rw [mEvT, c_28, decide_eq_false c_66]; rfl)
          rw [← hT] at hP hD
          exact W.iret (v := 0) hx hb hr (fun t ht hW => ⟨⟨0, (b, va_up g 0 (nI (mEvT b ev tm kd))), rfl, ⟨fun h9 => absurd h9 (by rw [hT]; decide), fun _ => rfl⟩, by rw [ht]; exact hP, va_K.moved hW.alike hK, hD⟩, hS.F ht⟩) hS.2.2 dM_event_82
      · refine lv_iconst (v := 1) hx hb dM_event_41 (by decide) ?_
        refine lv_goto (tgt := 46) hx hb dM_event_42 (by decide) ?_
        refine lv_istore (lv' := [(4, .int (1)), (0, .ref (r 0)), (1, .int (tm)), (2, .int (kd)), (3, .int (va))]) hx hb dM_event_46 hl (by decide) rfl (fun ls hl => ?_)
        refine lv_aload_n hx hb dM_event_48 rfl (lv_at hl 1 rfl) ?_
        refine lv_iload hx hb dM_event_49 (lv_at hl 0 rfl) ?_
        refine lv_if_ne (tgt := 58) hx hb dM_event_51 (by decide) (fun _ => ?_) (fun c9 => absurd c9 (by decide))
        refine lv_iconst (v := 0) hx hb dM_event_58 (by decide) ?_
        refine lv_aload_n hx hb dM_event_59 rfl (lv_at hl 1 rfl) ?_
        refine va_get (D := (dC, dI)) (ci := 1) (v := .int (nI (ev))) (C := "EventPatternsModel") (T := TM) (N := 16) hx hb hbw inM hown hK hP 0 rfl rfl 1 (by decide) (hbw _ kf_M_45) (fun _ h9 => h9) (congrArg (fun z => some (Value.int z)) (hg1)) dM_event_60 ?_
        refine lv_sipush (v := 400) hx hb dM_event_63 (by decide) ?_
        refine nr_icmp_ne (tgt := 73) hx hb (a1 := ev) (b1 := 400) (by omega) (by omega) dM_event_66 (by decide) (fun c_66 => ?_) (fun c_66 => ?_)
        · refine lv_iconst (v := 0) hx hb dM_event_73 (by decide) ?_
          refine lv_iconst (v := 0) hx hb dM_event_74 (by decide) ?_
          have hFc := va_free (wc := mw r cI cZ (b) (g)) hD hS hA (List.range 11) rfl
          refine va_calli (va_runV (As := [.int (0), .int (0), .int (0)]) (rest := []) ⟨hx, hb, hml, hown, hbw⟩ (tM_refuse l dC dI r cI cZ cG (b) (g) s.heap.size false false false) (cwV 3 hbw (bw_V km_M_53 ki_yM_refuse ksel_yM_refuse ki_EventPatternsModel kcM_refuse) rfl rfl rfl (by decide +kernel) ⟨Nat.le_of_ble_eq_true rfl, Nat.le_of_ble_eq_true rfl⟩) ⟨fun a U g mk q => by obtain ⟨q0, q1, qP, qK, qD⟩ := q; exact ⟨q0, q1, qP, va_K.moved (u := U) (U := U.calling g mk a) (Vm.Alike.refl U.vm) qK, qD⟩, va_recv hK hP (ci := 1) (q0 := 0) rfl rfl, fun U hU hW => ⟨rfl, by rw [hU], by rw [hU]; exact hP, va_K.moved hW.alike hK, hD.weaken (fun _ _ _ _ => trivial)⟩⟩ rfl rfl hl.1 rfl (lv_room (Nat.le_of_ble_eq_true rfl)) dM_event_75 ⟨Nat.le_of_ble_eq_true rfl, Nat.le_of_ble_eq_true rfl⟩) hS (fun q _ h => hFc q h) hFc (fun r_75 u t H1 locs ht hvm hq hB hz1 hk1 hS => ?_)
          obtain ⟨hq1, hq⟩ := hq
          have hq1 : r_75 = 0 := hq1
          subst hq1
          obtain rfl := hq
          obtain ⟨hP1, hK1, hD1⟩ := hB
          rw [ht] at hP1
          have hP : va_P (dC, dI) cls2 (mw r cI cZ (b) (va_up (g) 0 (nI (mTh false false false)))) H1 := hP1
          have hD : va_D A (mw r cI cZ (b) (va_up (g) 0 (nI (mTh false false false)))) := hD1.weaken (fun _ _ _ h => hFc _ h)
          generalize H1 = H at hP hS ⊢
          refine lv_if_eq (tgt := 83) hx hb dM_event_78 (by decide) (fun _ => ?_) (fun c9 => absurd c9 (by decide))
          refine lv_aload_n hx hb dM_event_83 rfl (lv_at hl 1 rfl) ?_
          refine va_get (D := (dC, dI)) (ci := 1) (v := .ref (r 1)) (C := "EventPatternsModel") (T := TM) (N := 16) hx hb hbw inM hown hK hP 0 rfl rfl 2 (by decide) (hbw _ kf_M_7) (fun _ h9 => h9) rfl dM_event_84 ?_
          refine lv_aload_n hx hb dM_event_87 rfl (lv_at hl 1 rfl) ?_
          refine va_get (D := (dC, dI)) (ci := 1) (v := .int (nI (ev))) (C := "EventPatternsModel") (T := TM) (N := 16) hx hb hbw inM hown hK hP 0 rfl rfl 1 (by decide) (hbw _ kf_M_45) (fun _ h9 => h9) (congrArg (fun z => some (Value.int z)) (hg1)) dM_event_88 ?_
          refine lv_iload_n hx hb dM_event_91 rfl (lv_at hl 2 rfl) ?_
          refine nr_iast hx hb hK hP hD hS 1 0 rfl rfl (j := ev) (by omega) (by decide) dM_event_92 (fun H locs hP hD hS => ?_)
          have hP : va_P (dC, dI) cls2 (mw r cI cZ (va_up (b) 0 (upd (b 0) (ev) (tm))) (va_up (g) 0 (nI (mTh false false false)))) H := hP
          have hD : va_D A (mw r cI cZ (va_up (b) 0 (upd (b 0) (ev) (tm))) (va_up (g) 0 (nI (mTh false false false)))) := hD
          refine lv_aload_n hx hb dM_event_93 rfl (lv_at hl 1 rfl) ?_
          refine va_get (D := (dC, dI)) (ci := 1) (v := .ref (r 2)) (C := "EventPatternsModel") (T := TM) (N := 16) hx hb hbw inM hown hK hP 0 rfl rfl 3 (by decide) (hbw _ kf_M_13) (fun _ h9 => h9) rfl dM_event_94 ?_
          refine lv_aload_n hx hb dM_event_97 rfl (lv_at hl 1 rfl) ?_
          refine va_get (D := (dC, dI)) (ci := 1) (v := .int (nI (ev))) (C := "EventPatternsModel") (T := TM) (N := 16) hx hb hbw inM hown hK hP 0 rfl rfl 1 (by decide) (hbw _ kf_M_45) (fun _ h9 => h9) (congrArg (fun z => some (Value.int z)) (hg1)) dM_event_98 ?_
          refine lv_iload_n hx hb dM_event_101 rfl (lv_at hl 3 rfl) ?_
          refine nr_iast hx hb hK hP hD hS 2 0 rfl rfl (j := ev) (by omega) (by decide) dM_event_102 (fun H locs hP hD hS => ?_)
          have hP : va_P (dC, dI) cls2 (mw r cI cZ (va_up (va_up (b) 0 (upd (b 0) (ev) (tm))) 1 (upd (b 1) (ev) (kd))) (va_up (g) 0 (nI (mTh false false false)))) H := hP
          have hD : va_D A (mw r cI cZ (va_up (va_up (b) 0 (upd (b 0) (ev) (tm))) 1 (upd (b 1) (ev) (kd))) (va_up (g) 0 (nI (mTh false false false)))) := hD
          refine lv_aload_n hx hb dM_event_103 rfl (lv_at hl 1 rfl) ?_
          refine va_get (D := (dC, dI)) (ci := 1) (v := .ref (r 3)) (C := "EventPatternsModel") (T := TM) (N := 16) hx hb hbw inM hown hK hP 0 rfl rfl 4 (by decide) (hbw _ kf_M_16) (fun _ h9 => h9) rfl dM_event_104 ?_
          refine lv_aload_n hx hb dM_event_107 rfl (lv_at hl 1 rfl) ?_
          refine va_get (D := (dC, dI)) (ci := 1) (v := .int (nI (ev))) (C := "EventPatternsModel") (T := TM) (N := 16) hx hb hbw inM hown hK hP 0 rfl rfl 1 (by decide) (hbw _ kf_M_45) (fun _ h9 => h9) (congrArg (fun z => some (Value.int z)) (hg1)) dM_event_108 ?_
          refine lv_iload_n hx hb dM_event_111 rfl (lv_at hl 4 rfl) ?_
          refine nr_iast hx hb hK hP hD hS 3 0 rfl rfl (j := ev) (by omega) (by decide) dM_event_112 (fun H locs hP hD hS => ?_)
          have hP : va_P (dC, dI) cls2 (mw r cI cZ (va_up (va_up (va_up (b) 0 (upd (b 0) (ev) (tm))) 1 (upd (b 1) (ev) (kd))) 2 (upd (b 2) (ev) (va))) (va_up (g) 0 (nI (mTh false false false)))) H := hP
          have hD : va_D A (mw r cI cZ (va_up (va_up (va_up (b) 0 (upd (b 0) (ev) (tm))) 1 (upd (b 1) (ev) (kd))) 2 (upd (b 2) (ev) (va))) (va_up (g) 0 (nI (mTh false false false)))) := hD
          refine lv_aload_n hx hb dM_event_113 rfl (lv_at hl 1 rfl) ?_
          refine lv_dup hx hb dM_event_114 rfl ?_
          refine va_get (D := (dC, dI)) (ci := 1) (v := .int (nI (ev))) (C := "EventPatternsModel") (T := TM) (N := 16) hx hb hbw inM hown hK hP 0 rfl rfl 1 (by decide) (hbw _ kf_M_45) (fun _ h9 => h9) (congrArg (fun z => some (Value.int z)) (hg1)) dM_event_115 ?_
          refine lv_iconst (v := 1) hx hb dM_event_118 (by decide) ?_
          refine nr_iadd hx hb (a1 := ev) (b1 := 1) dM_event_119 ?_
          refine va_put (D := (dC, dI)) (ci := 1) (v := .int (nI (ev + 1))) (ty := .int) (C := "EventPatternsModel") (T := TM) (N := 16) hx hb hbw inM tyM okM nmM hown hK hP hD hS 0 rfl rfl 1 (by decide) (hbw _ kf_M_45) (fun _ h9 => h9) rfl (by decide +kernel) rfl rfl (Nat.le_of_ble_eq_true rfl) dM_event_120 (fun H locs hP hD hS => ?_)
          have hP : va_P (dC, dI) cls2 (mw r cI cZ (va_up (va_up (va_up (b) 0 (upd (b 0) (ev) (tm))) 1 (upd (b 1) (ev) (kd))) 2 (upd (b 2) (ev) (va))) (va_up (va_up (g) 0 (nI (mTh false false false))) 1 (nI (ev + 1)))) H := hP
          have hD : va_D A (mw r cI cZ (va_up (va_up (va_up (b) 0 (upd (b 0) (ev) (tm))) 1 (upd (b 1) (ev) (kd))) 2 (upd (b 2) (ev) (va))) (va_up (va_up (g) 0 (nI (mTh false false false))) 1 (nI (ev + 1)))) := hD
          refine lv_aload_n hx hb dM_event_123 rfl (lv_at hl 1 rfl) ?_
          refine va_get (D := (dC, dI)) (ci := 1) (v := .int (nI (ev + 1))) (C := "EventPatternsModel") (T := TM) (N := 16) hx hb hbw inM hown hK hP 0 rfl rfl 1 (by decide) (hbw _ kf_M_45) (fun _ h9 => h9) rfl dM_event_124 ?_
          refine lv_iconst (v := 1) hx hb dM_event_127 (by decide) ?_
          refine nr_isub hx hb (a1 := ev + 1) (b1 := 1) (by omega) dM_event_128 ?_
          have hT : mEvT b ev tm kd = 0 := by first | (rw [mEvT, c_28, c_38, decide_eq_true c_66]; rfl) | (rw [mEvT, c_28, c_38, decide_eq_false c_66]; rfl) | (rw [mEvT, c_28, decide_eq_true c_66]; rfl) | (rw [mEvT, c_28, decide_eq_false c_66]; rfl)
          exact W.iret (v := nI ((ev + 1) - 1)) hx hb hr (fun t ht hW => ⟨⟨nI ((ev + 1) - 1), (mEvB b ev tm kd va, va_up (va_up g 0 (nI (mTh false false false))) 1 (nI (ev + 1))), rfl, ⟨fun _ => ⟨by rw [Nat.add_sub_cancel], rfl⟩, fun h9 => absurd hT h9⟩, by rw [ht]; exact hP, va_K.moved hW.alike hK, hD⟩, hS.F ht⟩) hS.2.2 dM_event_129
        · refine lv_iconst (v := 1) hx hb dM_event_69 (by decide) ?_
          refine lv_goto (tgt := 74) hx hb dM_event_70 (by decide) ?_
          refine lv_iconst (v := 0) hx hb dM_event_74 (by decide) ?_
          have hFc := va_free (wc := mw r cI cZ (b) (g)) hD hS hA (List.range 11) rfl
          refine va_calli (va_runV (As := [.int (0), .int (1), .int (0)]) (rest := []) ⟨hx, hb, hml, hown, hbw⟩ (tM_refuse l dC dI r cI cZ cG (b) (g) s.heap.size false true false) (cwV 3 hbw (bw_V km_M_53 ki_yM_refuse ksel_yM_refuse ki_EventPatternsModel kcM_refuse) rfl rfl rfl (by decide +kernel) ⟨Nat.le_of_ble_eq_true rfl, Nat.le_of_ble_eq_true rfl⟩) ⟨fun a U g mk q => by obtain ⟨q0, q1, qP, qK, qD⟩ := q; exact ⟨q0, q1, qP, va_K.moved (u := U) (U := U.calling g mk a) (Vm.Alike.refl U.vm) qK, qD⟩, va_recv hK hP (ci := 1) (q0 := 0) rfl rfl, fun U hU hW => ⟨rfl, by rw [hU], by rw [hU]; exact hP, va_K.moved hW.alike hK, hD.weaken (fun _ _ _ _ => trivial)⟩⟩ rfl rfl hl.1 rfl (lv_room (Nat.le_of_ble_eq_true rfl)) dM_event_75 ⟨Nat.le_of_ble_eq_true rfl, Nat.le_of_ble_eq_true rfl⟩) hS (fun q _ h => hFc q h) hFc (fun r_75 u t H1 locs ht hvm hq hB hz1 hk1 hS => ?_)
          obtain ⟨hq1, hq⟩ := hq
          have hq1 : r_75 = 1 := hq1
          subst hq1
          obtain rfl := hq
          obtain ⟨hP1, hK1, hD1⟩ := hB
          rw [ht] at hP1
          have hP : va_P (dC, dI) cls2 (mw r cI cZ (b) (va_up (g) 0 (nI (mTh false true false)))) H1 := hP1
          have hD : va_D A (mw r cI cZ (b) (va_up (g) 0 (nI (mTh false true false)))) := hD1.weaken (fun _ _ _ h => hFc _ h)
          generalize H1 = H at hP hS ⊢
          refine lv_if_eq (tgt := 83) hx hb dM_event_78 (by decide) (fun c9 => absurd c9 (by decide)) (fun _ => ?_)
          refine lv_iconst (v := 0) hx hb dM_event_81 (by decide) ?_
          have hT : mEvT b ev tm kd = mTh false true false := by first | (rw [mEvT, c_28, c_38, decide_eq_true c_66]; rfl) | (rw [mEvT, c_28, c_38, decide_eq_false c_66]; rfl) | (rw [mEvT, c_28, decide_eq_true c_66]; rfl) | (rw [mEvT, c_28, decide_eq_false c_66]; rfl)
          rw [← hT] at hP hD
          exact W.iret (v := 0) hx hb hr (fun t ht hW => ⟨⟨0, (b, va_up g 0 (nI (mEvT b ev tm kd))), rfl, ⟨fun h9 => absurd h9 (by rw [hT]; decide), fun _ => rfl⟩, by rw [ht]; exact hP, va_K.moved hW.alike hK, hD⟩, hS.F ht⟩) hS.2.2 dM_event_82
set_option maxHeartbeats 4000000 in
set_option maxRecDepth 100000 in
/-- pattern(style, span) -/
theorem tM_pattern (l : Launch) (dC : Nat → ClassId) (dI : Nat → Nat → Nat) (r : Nat → Nat) (cI cZ cG : ClassId) (b : Nat → Nat → Int32) (g : Nat → Int32) (sz : Nat) (sy sp : Int32)  : Met l yM_pattern wM_pattern ({ frames := 1, cells := 0, slots := 0, locals := 23 }) (va_Pc [.ref (r 0), .int (sy), .int (sp)] (fun U => U.heap.size = sz ∧ va_P (dC, dI) cls2 (mw r cI cZ b g) U.heap ∧ va_K (dC, dI) cls2 (xt cI cZ cG) U ∧ va_D (fun _ => True) (mw r cI cZ b g))) (va_Qv (fun (u : MS) => (mPaT sy sp = 0 → u = (b, va_up (va_up (va_up (va_up g 0 (nI (mTh false false false))) 2 sy) 3 sp) 4 0)) ∧ (¬ mPaT sy sp = 0 → u = (b, va_up g 0 (nI (mPaT sy sp))))) (atM dC dI r cI cZ cG (va_A (mw r cI cZ b g) sz)) (va_A (mw r cI cZ b g) sz)) 0 0 (va_A (mw r cI cZ b g) sz) := by
  refine Met.ofW (cc := cM_pattern) (maxL := 3) (ret := none) (by decide) rfl ?_
  intro p e s m args below meth c s₁ B hml hv
  obtain ⟨rfl, hsz, hP, hK, hD0⟩ := hv
  have hx := B.exec
  have hb := B.bytes
  have hr := B.returns
  have hbw : ∀ w ∈ bw, w.before _ s = true := fun w h => atoms_spec (ws := wM_pattern) B.pre w (List.mem_cons_of_mem _ h)
  have hown : s.vm.findClass "EventPatternsModel" = some m.cls := findClass_of_methodNamed B.named
  have hlocks := B.notSynchronized
  subst hsz
  have hD := hD0.self (sz := s.heap.size)
  generalize hAe : va_A (mw r cI cZ b g) s.heap.size = A at hD ⊢
  have hA : ∀ q : Nat, s.heap.size ≤ q → A q := fun q h => by rw [← hAe]; exact Or.inr h
  have hS : va_S A s.heap s.heap [] := va_S.rf
  have hl := lv_entry ([.ref (r 0), .int (sy), .int (sp)]) (n := 3) (Nat.le_of_ble_eq_true rfl)
  rw [lg_entry_eq]
  generalize (lg_sl ([.ref (r 0), .int (sy), .int (sp)]) ++ List.replicate (3 - (lg_sl ([.ref (r 0), .int (sy), .int (sp)])).length) Slot.unset).toArray = ls at hl ⊢
  have hl : lv_has ls 3 [(0, .ref (r 0)), (1, .int (sy)), (2, .int (sp))] := hl
  refine lv_aload_n hx hb dM_pattern_0 rfl (lv_at hl 0 rfl) ?_
  refine lv_iload_n hx hb dM_pattern_1 rfl (lv_at hl 1 rfl) ?_
  refine lv_iconst (v := 0) hx hb dM_pattern_2 (by decide) ?_
  refine lv_iconst (v := 1) hx hb dM_pattern_3 (by decide) ?_
  refine vp_callSi (W.runS (As := [.int (sy), .int (0), .int (1)]) (rest := [.ref (r 0)]) ⟨hx, hb, hml, hown, hbw⟩ (tM_in l (sy) (0) (1)) (cwS 3 hbw (bw_S km_M_49 ks_yM_in ki_EventPatternsModel kcM_in) rfl rfl rfl (by decide +kernel) ⟨Nat.le_of_ble_eq_true rfl, Nat.le_of_ble_eq_true rfl⟩) ⟨fun a U g mk q => q, fun U hU hW => ⟨rfl, trivial⟩⟩ rfl rfl hl.1 rfl (lv_room (Nat.le_of_ble_eq_true rfl)) dM_pattern_4 ⟨Nat.le_of_ble_eq_true rfl, Nat.le_of_ble_eq_true rfl⟩) (fun r_4 hq => ?_)
  subst hq
  refine nr_ifb_eq (tgt := 20) hx hb (b := (iIn (sy) (0) (1))) dM_pattern_7 (by decide) (fun c_7 => ?_) (fun c_7 => ?_)
  · refine lv_iconst (v := 1) hx hb dM_pattern_20 (by decide) ?_
    refine lv_goto (tgt := 25) hx hb dM_pattern_21 (by decide) ?_
    refine lv_iconst (v := 0) hx hb dM_pattern_25 (by decide) ?_
    refine lv_iconst (v := 0) hx hb dM_pattern_26 (by decide) ?_
    have hFc := va_free (wc := mw r cI cZ (b) (g)) hD hS hA (List.range 11) rfl
    refine va_calli (va_runV (As := [.int (1), .int (0), .int (0)]) (rest := []) ⟨hx, hb, hml, hown, hbw⟩ (tM_refuse l dC dI r cI cZ cG (b) (g) s.heap.size true false false) (cwV 3 hbw (bw_V km_M_53 ki_yM_refuse ksel_yM_refuse ki_EventPatternsModel kcM_refuse) rfl rfl rfl (by decide +kernel) ⟨Nat.le_of_ble_eq_true rfl, Nat.le_of_ble_eq_true rfl⟩) ⟨fun a U g mk q => by obtain ⟨q0, q1, qP, qK, qD⟩ := q; exact ⟨q0, q1, qP, va_K.moved (u := U) (U := U.calling g mk a) (Vm.Alike.refl U.vm) qK, qD⟩, va_recv hK hP (ci := 1) (q0 := 0) rfl rfl, fun U hU hW => ⟨rfl, by rw [hU], by rw [hU]; exact hP, va_K.moved hW.alike hK, hD.weaken (fun _ _ _ _ => trivial)⟩⟩ rfl rfl hl.1 rfl (lv_room (Nat.le_of_ble_eq_true rfl)) dM_pattern_27 ⟨Nat.le_of_ble_eq_true rfl, Nat.le_of_ble_eq_true rfl⟩) hS (fun q _ h => hFc q h) hFc (fun r_27 u t H1 locs ht hvm hq hB hz1 hk1 hS => ?_)
    obtain ⟨hq1, hq⟩ := hq
    have hq1 : r_27 = 1 := hq1
    subst hq1
    obtain rfl := hq
    obtain ⟨hP1, hK1, hD1⟩ := hB
    rw [ht] at hP1
    have hP : va_P (dC, dI) cls2 (mw r cI cZ (b) (va_up (g) 0 (nI (mTh true false false)))) H1 := hP1
    have hD : va_D A (mw r cI cZ (b) (va_up (g) 0 (nI (mTh true false false)))) := hD1.weaken (fun _ _ _ h => hFc _ h)
    generalize H1 = H at hP hS ⊢
    refine lv_if_ne (tgt := 48) hx hb dM_pattern_30 (by decide) (fun _ => ?_) (fun c9 => absurd c9 (by decide))
    have hT : mPaT sy sp = mTh true false false := by first | (rw [mPaT, c_7, c_17]; rfl) | (rw [mPaT, c_7]; rfl)
    rw [← hT] at hP hD
    exact W.vret hx hb hr (fun t ht hW => ⟨⟨(b, va_up g 0 (nI (mPaT sy sp))), rfl, ⟨fun h9 => absurd h9 (by rw [hT]; decide), fun _ => rfl⟩, by rw [ht]; exact hP, va_K.moved hW.alike hK, hD⟩, hS.F ht⟩) hS.2.2 dM_pattern_48
  · refine lv_iload_n hx hb dM_pattern_10 rfl (lv_at hl 2 rfl) ?_
    refine lv_iconst (v := 0) hx hb dM_pattern_11 (by decide) ?_
    refine lv_ldc (v := 1000000) hx hb hown (hbw _ kk_M_48) dM_pattern_12 ?_
    refine vp_callSi (W.runS (As := [.int (sp), .int (0), .int (1000000)]) (rest := [.ref (r 0)]) ⟨hx, hb, hml, hown, hbw⟩ (tM_in l (sp) (0) (1000000)) (cwS 3 hbw (bw_S km_M_49 ks_yM_in ki_EventPatternsModel kcM_in) rfl rfl rfl (by decide +kernel) ⟨Nat.le_of_ble_eq_true rfl, Nat.le_of_ble_eq_true rfl⟩) ⟨fun a U g mk q => q, fun U hU hW => ⟨rfl, trivial⟩⟩ rfl rfl hl.1 rfl (lv_room (Nat.le_of_ble_eq_true rfl)) dM_pattern_14 ⟨Nat.le_of_ble_eq_true rfl, Nat.le_of_ble_eq_true rfl⟩) (fun r_14 hq => ?_)
    subst hq
    refine nr_ifb_ne (tgt := 24) hx hb (b := (iIn (sp) (0) (1000000))) dM_pattern_17 (by decide) (fun c_17 => ?_) (fun c_17 => ?_)
    · refine lv_iconst (v := 0) hx hb dM_pattern_24 (by decide) ?_
      refine lv_iconst (v := 0) hx hb dM_pattern_25 (by decide) ?_
      refine lv_iconst (v := 0) hx hb dM_pattern_26 (by decide) ?_
      have hFc := va_free (wc := mw r cI cZ (b) (g)) hD hS hA (List.range 11) rfl
      refine va_calli (va_runV (As := [.int (0), .int (0), .int (0)]) (rest := []) ⟨hx, hb, hml, hown, hbw⟩ (tM_refuse l dC dI r cI cZ cG (b) (g) s.heap.size false false false) (cwV 3 hbw (bw_V km_M_53 ki_yM_refuse ksel_yM_refuse ki_EventPatternsModel kcM_refuse) rfl rfl rfl (by decide +kernel) ⟨Nat.le_of_ble_eq_true rfl, Nat.le_of_ble_eq_true rfl⟩) ⟨fun a U g mk q => by obtain ⟨q0, q1, qP, qK, qD⟩ := q; exact ⟨q0, q1, qP, va_K.moved (u := U) (U := U.calling g mk a) (Vm.Alike.refl U.vm) qK, qD⟩, va_recv hK hP (ci := 1) (q0 := 0) rfl rfl, fun U hU hW => ⟨rfl, by rw [hU], by rw [hU]; exact hP, va_K.moved hW.alike hK, hD.weaken (fun _ _ _ _ => trivial)⟩⟩ rfl rfl hl.1 rfl (lv_room (Nat.le_of_ble_eq_true rfl)) dM_pattern_27 ⟨Nat.le_of_ble_eq_true rfl, Nat.le_of_ble_eq_true rfl⟩) hS (fun q _ h => hFc q h) hFc (fun r_27 u t H1 locs ht hvm hq hB hz1 hk1 hS => ?_)
      obtain ⟨hq1, hq⟩ := hq
      have hq1 : r_27 = 0 := hq1
      subst hq1
      obtain rfl := hq
      obtain ⟨hP1, hK1, hD1⟩ := hB
      rw [ht] at hP1
      have hP : va_P (dC, dI) cls2 (mw r cI cZ (b) (va_up (g) 0 (nI (mTh false false false)))) H1 := hP1
      have hD : va_D A (mw r cI cZ (b) (va_up (g) 0 (nI (mTh false false false)))) := hD1.weaken (fun _ _ _ h => hFc _ h)
      generalize H1 = H at hP hS ⊢
      refine lv_if_ne (tgt := 48) hx hb dM_pattern_30 (by decide) (fun c9 => absurd c9 (by decide)) (fun _ => ?_)
      refine lv_aload_n hx hb dM_pattern_33 rfl (lv_at hl 0 rfl) ?_
      refine lv_iload_n hx hb dM_pattern_34 rfl (lv_at hl 1 rfl) ?_
      refine va_put (D := (dC, dI)) (ci := 1) (v := .int (sy)) (ty := .int) (C := "EventPatternsModel") (T := TM) (N := 16) hx hb hbw inM tyM okM nmM hown hK hP hD hS 0 rfl rfl 5 (by decide) (hbw _ kf_M_57) (fun _ h9 => h9) rfl (by decide +kernel) rfl rfl (Nat.le_of_ble_eq_true rfl) dM_pattern_35 (fun H locs hP hD hS => ?_)
      have hP : va_P (dC, dI) cls2 (mw r cI cZ (b) (va_up (va_up (g) 0 (nI (mTh false false false))) 2 (sy))) H := hP
      have hD : va_D A (mw r cI cZ (b) (va_up (va_up (g) 0 (nI (mTh false false false))) 2 (sy))) := hD
      refine lv_aload_n hx hb dM_pattern_38 rfl (lv_at hl 0 rfl) ?_
      refine lv_iload_n hx hb dM_pattern_39 rfl (lv_at hl 2 rfl) ?_
      refine va_put (D := (dC, dI)) (ci := 1) (v := .int (sp)) (ty := .int) (C := "EventPatternsModel") (T := TM) (N := 16) hx hb hbw inM tyM okM nmM hown hK hP hD hS 0 rfl rfl 6 (by decide) (hbw _ kf_M_60) (fun _ h9 => h9) rfl (by decide +kernel) rfl rfl (Nat.le_of_ble_eq_true rfl) dM_pattern_40 (fun H locs hP hD hS => ?_)
      have hP : va_P (dC, dI) cls2 (mw r cI cZ (b) (va_up (va_up (va_up (g) 0 (nI (mTh false false false))) 2 (sy)) 3 (sp))) H := hP
      have hD : va_D A (mw r cI cZ (b) (va_up (va_up (va_up (g) 0 (nI (mTh false false false))) 2 (sy)) 3 (sp))) := hD
      refine lv_aload_n hx hb dM_pattern_43 rfl (lv_at hl 0 rfl) ?_
      refine lv_iconst (v := 0) hx hb dM_pattern_44 (by decide) ?_
      refine va_put (D := (dC, dI)) (ci := 1) (v := .int (0)) (ty := .int) (C := "EventPatternsModel") (T := TM) (N := 16) hx hb hbw inM tyM okM nmM hown hK hP hD hS 0 rfl rfl 7 (by decide) (hbw _ kf_M_63) (fun _ h9 => h9) rfl (by decide +kernel) rfl rfl (Nat.le_of_ble_eq_true rfl) dM_pattern_45 (fun H locs hP hD hS => ?_)
      have hP : va_P (dC, dI) cls2 (mw r cI cZ (b) (va_up (va_up (va_up (va_up (g) 0 (nI (mTh false false false))) 2 (sy)) 3 (sp)) 4 (0))) H := hP
      have hD : va_D A (mw r cI cZ (b) (va_up (va_up (va_up (va_up (g) 0 (nI (mTh false false false))) 2 (sy)) 3 (sp)) 4 (0))) := hD
      have hT : mPaT sy sp = 0 := by first | (rw [mPaT, c_7, c_17]; rfl) | (rw [mPaT, c_7]; rfl)
      exact W.vret hx hb hr (fun t ht hW => ⟨⟨(b, va_up (va_up (va_up (va_up g 0 (nI (mTh false false false))) 2 sy) 3 sp) 4 0), rfl, ⟨fun _ => rfl, fun h9 => absurd hT h9⟩, by rw [ht]; exact hP, va_K.moved hW.alike hK, hD⟩, hS.F ht⟩) hS.2.2 dM_pattern_48
    · refine lv_iconst (v := 1) hx hb dM_pattern_20 (by decide) ?_
      refine lv_goto (tgt := 25) hx hb dM_pattern_21 (by decide) ?_
      refine lv_iconst (v := 0) hx hb dM_pattern_25 (by decide) ?_
      refine lv_iconst (v := 0) hx hb dM_pattern_26 (by decide) ?_
      have hFc := va_free (wc := mw r cI cZ (b) (g)) hD hS hA (List.range 11) rfl
      refine va_calli (va_runV (As := [.int (1), .int (0), .int (0)]) (rest := []) ⟨hx, hb, hml, hown, hbw⟩ (tM_refuse l dC dI r cI cZ cG (b) (g) s.heap.size true false false) (cwV 3 hbw (bw_V km_M_53 ki_yM_refuse ksel_yM_refuse ki_EventPatternsModel kcM_refuse) rfl rfl rfl (by decide +kernel) ⟨Nat.le_of_ble_eq_true rfl, Nat.le_of_ble_eq_true rfl⟩) ⟨fun a U g mk q => by obtain ⟨q0, q1, qP, qK, qD⟩ := q; exact ⟨q0, q1, qP, va_K.moved (u := U) (U := U.calling g mk a) (Vm.Alike.refl U.vm) qK, qD⟩, va_recv hK hP (ci := 1) (q0 := 0) rfl rfl, fun U hU hW => ⟨rfl, by rw [hU], by rw [hU]; exact hP, va_K.moved hW.alike hK, hD.weaken (fun _ _ _ _ => trivial)⟩⟩ rfl rfl hl.1 rfl (lv_room (Nat.le_of_ble_eq_true rfl)) dM_pattern_27 ⟨Nat.le_of_ble_eq_true rfl, Nat.le_of_ble_eq_true rfl⟩) hS (fun q _ h => hFc q h) hFc (fun r_27 u t H1 locs ht hvm hq hB hz1 hk1 hS => ?_)
      obtain ⟨hq1, hq⟩ := hq
      have hq1 : r_27 = 1 := hq1
      subst hq1
      obtain rfl := hq
      obtain ⟨hP1, hK1, hD1⟩ := hB
      rw [ht] at hP1
      have hP : va_P (dC, dI) cls2 (mw r cI cZ (b) (va_up (g) 0 (nI (mTh true false false)))) H1 := hP1
      have hD : va_D A (mw r cI cZ (b) (va_up (g) 0 (nI (mTh true false false)))) := hD1.weaken (fun _ _ _ h => hFc _ h)
      generalize H1 = H at hP hS ⊢
      refine lv_if_ne (tgt := 48) hx hb dM_pattern_30 (by decide) (fun _ => ?_) (fun c9 => absurd c9 (by decide))
      have hT : mPaT sy sp = mTh true false false := by first | (rw [mPaT, c_7, c_17]; rfl) | (rw [mPaT, c_7]; rfl)
      rw [← hT] at hP hD
      exact W.vret hx hb hr (fun t ht hW => ⟨⟨(b, va_up g 0 (nI (mPaT sy sp))), rfl, ⟨fun h9 => absurd h9 (by rw [hT]; decide), fun _ => rfl⟩, by rw [ht]; exact hP, va_K.moved hW.alike hK, hD⟩, hS.F ht⟩) hS.2.2 dM_pattern_48
set_option maxHeartbeats 4000000 in
set_option maxRecDepth 100000 in
/-- step(kinds, test, n, many) -/
theorem tM_step (l : Launch) (dC : Nat → ClassId) (dI : Nat → Nat → Nat) (r : Nat → Nat) (cI cZ cG : ClassId) (b : Nat → Nat → Int32) (g : Nat → Int32) (sz : Nat) (ms : Nat) (ki te nn mb : Int32) (hm : ms ≤ 5) (hg4 : g 4 = nI ms) : Met l yM_step wM_step ({ frames := 1, cells := 0, slots := 0, locals := 23 }) (va_Pc [.ref (r 0), .int (ki), .int (te), .int (nn), .int (mb)] (fun U => U.heap.size = sz ∧ va_P (dC, dI) cls2 (mw r cI cZ b g) U.heap ∧ va_K (dC, dI) cls2 (xt cI cZ cG) U ∧ va_D (fun _ => True) (mw r cI cZ b g))) (va_Qi (fun (r0 : Int32) (u : MS) => (mStT ms ki te = 0 → r0 = nI ms ∧ u = (mStB b ms ki te nn mb, va_up (va_up g 0 (nI (mTh false false false))) 4 (nI (ms + 1)))) ∧ (¬ mStT ms ki te = 0 → u = (b, va_up g 0 (nI (mStT ms ki te))))) (atM dC dI r cI cZ cG (va_A (mw r cI cZ b g) sz)) (va_A (mw r cI cZ b g) sz)) 0 0 (va_A (mw r cI cZ b g) sz) := by
  refine Met.ofW (cc := cM_step) (maxL := 6) (ret := (some .int)) (by decide) rfl ?_
  intro p e s m args below meth c s₁ B hml hv
  obtain ⟨rfl, hsz, hP, hK, hD0⟩ := hv
  have hx := B.exec
  have hb := B.bytes
  have hr := B.returns
  have hbw : ∀ w ∈ bw, w.before _ s = true := fun w h => atoms_spec (ws := wM_step) B.pre w (List.mem_cons_of_mem _ h)
  have hown : s.vm.findClass "EventPatternsModel" = some m.cls := findClass_of_methodNamed B.named
  have hlocks := B.notSynchronized
  subst hsz
  have hD := hD0.self (sz := s.heap.size)
  generalize hAe : va_A (mw r cI cZ b g) s.heap.size = A at hD ⊢
  have hA : ∀ q : Nat, s.heap.size ≤ q → A q := fun q h => by rw [← hAe]; exact Or.inr h
  have hS : va_S A s.heap s.heap [] := va_S.rf
  have hl := lv_entry ([.ref (r 0), .int (ki), .int (te), .int (nn), .int (mb)]) (n := 6) (Nat.le_of_ble_eq_true rfl)
  rw [lg_entry_eq]
  generalize (lg_sl ([.ref (r 0), .int (ki), .int (te), .int (nn), .int (mb)]) ++ List.replicate (6 - (lg_sl ([.ref (r 0), .int (ki), .int (te), .int (nn), .int (mb)])).length) Slot.unset).toArray = ls at hl ⊢
  have hl : lv_has ls 6 [(0, .ref (r 0)), (1, .int (ki)), (2, .int (te)), (3, .int (nn)), (4, .int (mb))] := hl
  refine lv_iload_n hx hb dM_step_0 rfl (lv_at hl 1 rfl) ?_
  refine lv_iconst (v := 1) hx hb dM_step_1 (by decide) ?_
  refine lv_sipush (v := 255) hx hb dM_step_2 (by decide) ?_
  refine vp_callSi (W.runS (As := [.int (ki), .int (1), .int (255)]) (rest := []) ⟨hx, hb, hml, hown, hbw⟩ (tM_in l (ki) (1) (255)) (cwS 3 hbw (bw_S km_M_49 ks_yM_in ki_EventPatternsModel kcM_in) rfl rfl rfl (by decide +kernel) ⟨Nat.le_of_ble_eq_true rfl, Nat.le_of_ble_eq_true rfl⟩) ⟨fun a U g mk q => q, fun U hU hW => ⟨rfl, trivial⟩⟩ rfl rfl hl.1 rfl (lv_room (Nat.le_of_ble_eq_true rfl)) dM_step_5 ⟨Nat.le_of_ble_eq_true rfl, Nat.le_of_ble_eq_true rfl⟩) (fun r_5 hq => ?_)
  subst hq
  refine nr_ifb_eq (tgt := 24) hx hb (b := (iIn (ki) (1) (255))) dM_step_8 (by decide) (fun c_8 => ?_) (fun c_8 => ?_)
  · refine lv_iconst (v := 0) hx hb dM_step_24 (by decide) ?_
    refine lv_istore (lv' := [(5, .int (0)), (0, .ref (r 0)), (1, .int (ki)), (2, .int (te)), (3, .int (nn)), (4, .int (mb))]) hx hb dM_step_25 hl (by decide) rfl (fun ls hl => ?_)
    refine lv_aload_n hx hb dM_step_27 rfl (lv_at hl 1 rfl) ?_
    refine lv_iload hx hb dM_step_28 (lv_at hl 0 rfl) ?_
    refine lv_if_ne (tgt := 37) hx hb dM_step_30 (by decide) (fun c9 => absurd c9 (by decide)) (fun _ => ?_)
    refine lv_iconst (v := 1) hx hb dM_step_33 (by decide) ?_
    refine lv_goto (tgt := 38) hx hb dM_step_34 (by decide) ?_
    refine lv_aload_n hx hb dM_step_38 rfl (lv_at hl 1 rfl) ?_
    refine va_get (D := (dC, dI)) (ci := 1) (v := .int (nI (ms))) (C := "EventPatternsModel") (T := TM) (N := 16) hx hb hbw inM hown hK hP 0 rfl rfl 7 (by decide) (hbw _ kf_M_63) (fun _ h9 => h9) (congrArg (fun z => some (Value.int z)) (hg4)) dM_step_39 ?_
    refine lv_iconst (v := 5) hx hb dM_step_42 (by decide) ?_
    refine nr_icmp_ne (tgt := 50) hx hb (a1 := ms) (b1 := 5) (by omega) (by omega) dM_step_43 (by decide) (fun c_43 => ?_) (fun c_43 => ?_)
    · refine lv_iconst (v := 0) hx hb dM_step_50 (by decide) ?_
      refine lv_iconst (v := 0) hx hb dM_step_51 (by decide) ?_
      have hFc := va_free (wc := mw r cI cZ (b) (g)) hD hS hA (List.range 11) rfl
      refine va_calli (va_runV (As := [.int (1), .int (0), .int (0)]) (rest := []) ⟨hx, hb, hml, hown, hbw⟩ (tM_refuse l dC dI r cI cZ cG (b) (g) s.heap.size true false false) (cwV 3 hbw (bw_V km_M_53 ki_yM_refuse ksel_yM_refuse ki_EventPatternsModel kcM_refuse) rfl rfl rfl (by decide +kernel) ⟨Nat.le_of_ble_eq_true rfl, Nat.le_of_ble_eq_true rfl⟩) ⟨fun a U g mk q => by obtain ⟨q0, q1, qP, qK, qD⟩ := q; exact ⟨q0, q1, qP, va_K.moved (u := U) (U := U.calling g mk a) (Vm.Alike.refl U.vm) qK, qD⟩, va_recv hK hP (ci := 1) (q0 := 0) rfl rfl, fun U hU hW => ⟨rfl, by rw [hU], by rw [hU]; exact hP, va_K.moved hW.alike hK, hD.weaken (fun _ _ _ _ => trivial)⟩⟩ rfl rfl hl.1 rfl (lv_room (Nat.le_of_ble_eq_true rfl)) dM_step_52 ⟨Nat.le_of_ble_eq_true rfl, Nat.le_of_ble_eq_true rfl⟩) hS (fun q _ h => hFc q h) hFc (fun r_52 u t H1 locs ht hvm hq hB hz1 hk1 hS => ?_)
      obtain ⟨hq1, hq⟩ := hq
      have hq1 : r_52 = 1 := hq1
      subst hq1
      obtain rfl := hq
      obtain ⟨hP1, hK1, hD1⟩ := hB
      rw [ht] at hP1
      have hP : va_P (dC, dI) cls2 (mw r cI cZ (b) (va_up (g) 0 (nI (mTh true false false)))) H1 := hP1
      have hD : va_D A (mw r cI cZ (b) (va_up (g) 0 (nI (mTh true false false)))) := hD1.weaken (fun _ _ _ h => hFc _ h)
      generalize H1 = H at hP hS ⊢
      refine lv_if_eq (tgt := 60) hx hb dM_step_55 (by decide) (fun c9 => absurd c9 (by decide)) (fun _ => ?_)
      refine lv_iconst (v := 0) hx hb dM_step_58 (by decide) ?_
      have hT : mStT ms ki te = mTh true false false := by first | (rw [mStT, c_8, c_17, decide_eq_true c_43]; rfl) | (rw [mStT, c_8, c_17, decide_eq_false c_43]; rfl) | (rw [mStT, c_8, decide_eq_true c_43]; rfl) | (rw [mStT, c_8, decide_eq_false c_43]; rfl)
      rw [← hT] at hP hD
      exact W.iret (v := 0) hx hb hr (fun t ht hW => ⟨⟨0, (b, va_up g 0 (nI (mStT ms ki te))), rfl, ⟨fun h9 => absurd h9 (by rw [hT]; decide), fun _ => rfl⟩, by rw [ht]; exact hP, va_K.moved hW.alike hK, hD⟩, hS.F ht⟩) hS.2.2 dM_step_59
    · refine lv_iconst (v := 1) hx hb dM_step_46 (by decide) ?_
      refine lv_goto (tgt := 51) hx hb dM_step_47 (by decide) ?_
      refine lv_iconst (v := 0) hx hb dM_step_51 (by decide) ?_
      have hFc := va_free (wc := mw r cI cZ (b) (g)) hD hS hA (List.range 11) rfl
      refine va_calli (va_runV (As := [.int (1), .int (1), .int (0)]) (rest := []) ⟨hx, hb, hml, hown, hbw⟩ (tM_refuse l dC dI r cI cZ cG (b) (g) s.heap.size true true false) (cwV 3 hbw (bw_V km_M_53 ki_yM_refuse ksel_yM_refuse ki_EventPatternsModel kcM_refuse) rfl rfl rfl (by decide +kernel) ⟨Nat.le_of_ble_eq_true rfl, Nat.le_of_ble_eq_true rfl⟩) ⟨fun a U g mk q => by obtain ⟨q0, q1, qP, qK, qD⟩ := q; exact ⟨q0, q1, qP, va_K.moved (u := U) (U := U.calling g mk a) (Vm.Alike.refl U.vm) qK, qD⟩, va_recv hK hP (ci := 1) (q0 := 0) rfl rfl, fun U hU hW => ⟨rfl, by rw [hU], by rw [hU]; exact hP, va_K.moved hW.alike hK, hD.weaken (fun _ _ _ _ => trivial)⟩⟩ rfl rfl hl.1 rfl (lv_room (Nat.le_of_ble_eq_true rfl)) dM_step_52 ⟨Nat.le_of_ble_eq_true rfl, Nat.le_of_ble_eq_true rfl⟩) hS (fun q _ h => hFc q h) hFc (fun r_52 u t H1 locs ht hvm hq hB hz1 hk1 hS => ?_)
      obtain ⟨hq1, hq⟩ := hq
      have hq1 : r_52 = 1 := hq1
      subst hq1
      obtain rfl := hq
      obtain ⟨hP1, hK1, hD1⟩ := hB
      rw [ht] at hP1
      have hP : va_P (dC, dI) cls2 (mw r cI cZ (b) (va_up (g) 0 (nI (mTh true true false)))) H1 := hP1
      have hD : va_D A (mw r cI cZ (b) (va_up (g) 0 (nI (mTh true true false)))) := hD1.weaken (fun _ _ _ h => hFc _ h)
      generalize H1 = H at hP hS ⊢
      refine lv_if_eq (tgt := 60) hx hb dM_step_55 (by decide) (fun c9 => absurd c9 (by decide)) (fun _ => ?_)
      refine lv_iconst (v := 0) hx hb dM_step_58 (by decide) ?_
      have hT : mStT ms ki te = mTh true true false := by first | (rw [mStT, c_8, c_17, decide_eq_true c_43]; rfl) | (rw [mStT, c_8, c_17, decide_eq_false c_43]; rfl) | (rw [mStT, c_8, decide_eq_true c_43]; rfl) | (rw [mStT, c_8, decide_eq_false c_43]; rfl)
      rw [← hT] at hP hD
      exact W.iret (v := 0) hx hb hr (fun t ht hW => ⟨⟨0, (b, va_up g 0 (nI (mStT ms ki te))), rfl, ⟨fun h9 => absurd h9 (by rw [hT]; decide), fun _ => rfl⟩, by rw [ht]; exact hP, va_K.moved hW.alike hK, hD⟩, hS.F ht⟩) hS.2.2 dM_step_59
  · refine lv_iload_n hx hb dM_step_11 rfl (lv_at hl 2 rfl) ?_
    refine lv_iconst (v := 0) hx hb dM_step_12 (by decide) ?_
    refine lv_iconst (v := 4) hx hb dM_step_13 (by decide) ?_
    refine vp_callSi (W.runS (As := [.int (te), .int (0), .int (4)]) (rest := []) ⟨hx, hb, hml, hown, hbw⟩ (tM_in l (te) (0) (4)) (cwS 3 hbw (bw_S km_M_49 ks_yM_in ki_EventPatternsModel kcM_in) rfl rfl rfl (by decide +kernel) ⟨Nat.le_of_ble_eq_true rfl, Nat.le_of_ble_eq_true rfl⟩) ⟨fun a U g mk q => q, fun U hU hW => ⟨rfl, trivial⟩⟩ rfl rfl hl.1 rfl (lv_room (Nat.le_of_ble_eq_true rfl)) dM_step_14 ⟨Nat.le_of_ble_eq_true rfl, Nat.le_of_ble_eq_true rfl⟩) (fun r_14 hq => ?_)
    subst hq
    refine nr_ifb_eq (tgt := 24) hx hb (b := (iIn (te) (0) (4))) dM_step_17 (by decide) (fun c_17 => ?_) (fun c_17 => ?_)
    · refine lv_iconst (v := 0) hx hb dM_step_24 (by decide) ?_
      refine lv_istore (lv' := [(5, .int (0)), (0, .ref (r 0)), (1, .int (ki)), (2, .int (te)), (3, .int (nn)), (4, .int (mb))]) hx hb dM_step_25 hl (by decide) rfl (fun ls hl => ?_)
      refine lv_aload_n hx hb dM_step_27 rfl (lv_at hl 1 rfl) ?_
      refine lv_iload hx hb dM_step_28 (lv_at hl 0 rfl) ?_
      refine lv_if_ne (tgt := 37) hx hb dM_step_30 (by decide) (fun c9 => absurd c9 (by decide)) (fun _ => ?_)
      refine lv_iconst (v := 1) hx hb dM_step_33 (by decide) ?_
      refine lv_goto (tgt := 38) hx hb dM_step_34 (by decide) ?_
      refine lv_aload_n hx hb dM_step_38 rfl (lv_at hl 1 rfl) ?_
      refine va_get (D := (dC, dI)) (ci := 1) (v := .int (nI (ms))) (C := "EventPatternsModel") (T := TM) (N := 16) hx hb hbw inM hown hK hP 0 rfl rfl 7 (by decide) (hbw _ kf_M_63) (fun _ h9 => h9) (congrArg (fun z => some (Value.int z)) (hg4)) dM_step_39 ?_
      refine lv_iconst (v := 5) hx hb dM_step_42 (by decide) ?_
      refine nr_icmp_ne (tgt := 50) hx hb (a1 := ms) (b1 := 5) (by omega) (by omega) dM_step_43 (by decide) (fun c_43 => ?_) (fun c_43 => ?_)
      · refine lv_iconst (v := 0) hx hb dM_step_50 (by decide) ?_
        refine lv_iconst (v := 0) hx hb dM_step_51 (by decide) ?_
        have hFc := va_free (wc := mw r cI cZ (b) (g)) hD hS hA (List.range 11) rfl
        refine va_calli (va_runV (As := [.int (1), .int (0), .int (0)]) (rest := []) ⟨hx, hb, hml, hown, hbw⟩ (tM_refuse l dC dI r cI cZ cG (b) (g) s.heap.size true false false) (cwV 3 hbw (bw_V km_M_53 ki_yM_refuse ksel_yM_refuse ki_EventPatternsModel kcM_refuse) rfl rfl rfl (by decide +kernel) ⟨Nat.le_of_ble_eq_true rfl, Nat.le_of_ble_eq_true rfl⟩) ⟨fun a U g mk q => by obtain ⟨q0, q1, qP, qK, qD⟩ := q; exact ⟨q0, q1, qP, va_K.moved (u := U) (U := U.calling g mk a) (Vm.Alike.refl U.vm) qK, qD⟩, va_recv hK hP (ci := 1) (q0 := 0) rfl rfl, fun U hU hW => ⟨rfl, by rw [hU], by rw [hU]; exact hP, va_K.moved hW.alike hK, hD.weaken (fun _ _ _ _ => trivial)⟩⟩ rfl rfl hl.1 rfl (lv_room (Nat.le_of_ble_eq_true rfl)) dM_step_52 ⟨Nat.le_of_ble_eq_true rfl, Nat.le_of_ble_eq_true rfl⟩) hS (fun q _ h => hFc q h) hFc (fun r_52 u t H1 locs ht hvm hq hB hz1 hk1 hS => ?_)
        obtain ⟨hq1, hq⟩ := hq
        have hq1 : r_52 = 1 := hq1
        subst hq1
        obtain rfl := hq
        obtain ⟨hP1, hK1, hD1⟩ := hB
        rw [ht] at hP1
        have hP : va_P (dC, dI) cls2 (mw r cI cZ (b) (va_up (g) 0 (nI (mTh true false false)))) H1 := hP1
        have hD : va_D A (mw r cI cZ (b) (va_up (g) 0 (nI (mTh true false false)))) := hD1.weaken (fun _ _ _ h => hFc _ h)
        generalize H1 = H at hP hS ⊢
        refine lv_if_eq (tgt := 60) hx hb dM_step_55 (by decide) (fun c9 => absurd c9 (by decide)) (fun _ => ?_)
        refine lv_iconst (v := 0) hx hb dM_step_58 (by decide) ?_
        have hT : mStT ms ki te = mTh true false false := by first | (rw [mStT, c_8, c_17, decide_eq_true c_43]; rfl) | (rw [mStT, c_8, c_17, decide_eq_false c_43]; rfl) | (rw [mStT, c_8, decide_eq_true c_43]; rfl) | (rw [mStT, c_8, decide_eq_false c_43]; rfl)
        rw [← hT] at hP hD
        exact W.iret (v := 0) hx hb hr (fun t ht hW => ⟨⟨0, (b, va_up g 0 (nI (mStT ms ki te))), rfl, ⟨fun h9 => absurd h9 (by rw [hT]; decide), fun _ => rfl⟩, by rw [ht]; exact hP, va_K.moved hW.alike hK, hD⟩, hS.F ht⟩) hS.2.2 dM_step_59
      · refine lv_iconst (v := 1) hx hb dM_step_46 (by decide) ?_
        refine lv_goto (tgt := 51) hx hb dM_step_47 (by decide) ?_
        refine lv_iconst (v := 0) hx hb dM_step_51 (by decide) ?_
        have hFc := va_free (wc := mw r cI cZ (b) (g)) hD hS hA (List.range 11) rfl
        refine va_calli (va_runV (As := [.int (1), .int (1), .int (0)]) (rest := []) ⟨hx, hb, hml, hown, hbw⟩ (tM_refuse l dC dI r cI cZ cG (b) (g) s.heap.size true true false) (cwV 3 hbw (bw_V km_M_53 ki_yM_refuse ksel_yM_refuse ki_EventPatternsModel kcM_refuse) rfl rfl rfl (by decide +kernel) ⟨Nat.le_of_ble_eq_true rfl, Nat.le_of_ble_eq_true rfl⟩) ⟨fun a U g mk q => by obtain ⟨q0, q1, qP, qK, qD⟩ := q; exact ⟨q0, q1, qP, va_K.moved (u := U) (U := U.calling g mk a) (Vm.Alike.refl U.vm) qK, qD⟩, va_recv hK hP (ci := 1) (q0 := 0) rfl rfl, fun U hU hW => ⟨rfl, by rw [hU], by rw [hU]; exact hP, va_K.moved hW.alike hK, hD.weaken (fun _ _ _ _ => trivial)⟩⟩ rfl rfl hl.1 rfl (lv_room (Nat.le_of_ble_eq_true rfl)) dM_step_52 ⟨Nat.le_of_ble_eq_true rfl, Nat.le_of_ble_eq_true rfl⟩) hS (fun q _ h => hFc q h) hFc (fun r_52 u t H1 locs ht hvm hq hB hz1 hk1 hS => ?_)
        obtain ⟨hq1, hq⟩ := hq
        have hq1 : r_52 = 1 := hq1
        subst hq1
        obtain rfl := hq
        obtain ⟨hP1, hK1, hD1⟩ := hB
        rw [ht] at hP1
        have hP : va_P (dC, dI) cls2 (mw r cI cZ (b) (va_up (g) 0 (nI (mTh true true false)))) H1 := hP1
        have hD : va_D A (mw r cI cZ (b) (va_up (g) 0 (nI (mTh true true false)))) := hD1.weaken (fun _ _ _ h => hFc _ h)
        generalize H1 = H at hP hS ⊢
        refine lv_if_eq (tgt := 60) hx hb dM_step_55 (by decide) (fun c9 => absurd c9 (by decide)) (fun _ => ?_)
        refine lv_iconst (v := 0) hx hb dM_step_58 (by decide) ?_
        have hT : mStT ms ki te = mTh true true false := by first | (rw [mStT, c_8, c_17, decide_eq_true c_43]; rfl) | (rw [mStT, c_8, c_17, decide_eq_false c_43]; rfl) | (rw [mStT, c_8, decide_eq_true c_43]; rfl) | (rw [mStT, c_8, decide_eq_false c_43]; rfl)
        rw [← hT] at hP hD
        exact W.iret (v := 0) hx hb hr (fun t ht hW => ⟨⟨0, (b, va_up g 0 (nI (mStT ms ki te))), rfl, ⟨fun h9 => absurd h9 (by rw [hT]; decide), fun _ => rfl⟩, by rw [ht]; exact hP, va_K.moved hW.alike hK, hD⟩, hS.F ht⟩) hS.2.2 dM_step_59
    · refine lv_iconst (v := 1) hx hb dM_step_20 (by decide) ?_
      refine lv_goto (tgt := 25) hx hb dM_step_21 (by decide) ?_
      refine lv_istore (lv' := [(5, .int (1)), (0, .ref (r 0)), (1, .int (ki)), (2, .int (te)), (3, .int (nn)), (4, .int (mb))]) hx hb dM_step_25 hl (by decide) rfl (fun ls hl => ?_)
      refine lv_aload_n hx hb dM_step_27 rfl (lv_at hl 1 rfl) ?_
      refine lv_iload hx hb dM_step_28 (lv_at hl 0 rfl) ?_
      refine lv_if_ne (tgt := 37) hx hb dM_step_30 (by decide) (fun _ => ?_) (fun c9 => absurd c9 (by decide))
      refine lv_iconst (v := 0) hx hb dM_step_37 (by decide) ?_
      refine lv_aload_n hx hb dM_step_38 rfl (lv_at hl 1 rfl) ?_
      refine va_get (D := (dC, dI)) (ci := 1) (v := .int (nI (ms))) (C := "EventPatternsModel") (T := TM) (N := 16) hx hb hbw inM hown hK hP 0 rfl rfl 7 (by decide) (hbw _ kf_M_63) (fun _ h9 => h9) (congrArg (fun z => some (Value.int z)) (hg4)) dM_step_39 ?_
      refine lv_iconst (v := 5) hx hb dM_step_42 (by decide) ?_
      refine nr_icmp_ne (tgt := 50) hx hb (a1 := ms) (b1 := 5) (by omega) (by omega) dM_step_43 (by decide) (fun c_43 => ?_) (fun c_43 => ?_)
      · refine lv_iconst (v := 0) hx hb dM_step_50 (by decide) ?_
        refine lv_iconst (v := 0) hx hb dM_step_51 (by decide) ?_
        have hFc := va_free (wc := mw r cI cZ (b) (g)) hD hS hA (List.range 11) rfl
        refine va_calli (va_runV (As := [.int (0), .int (0), .int (0)]) (rest := []) ⟨hx, hb, hml, hown, hbw⟩ (tM_refuse l dC dI r cI cZ cG (b) (g) s.heap.size false false false) (cwV 3 hbw (bw_V km_M_53 ki_yM_refuse ksel_yM_refuse ki_EventPatternsModel kcM_refuse) rfl rfl rfl (by decide +kernel) ⟨Nat.le_of_ble_eq_true rfl, Nat.le_of_ble_eq_true rfl⟩) ⟨fun a U g mk q => by obtain ⟨q0, q1, qP, qK, qD⟩ := q; exact ⟨q0, q1, qP, va_K.moved (u := U) (U := U.calling g mk a) (Vm.Alike.refl U.vm) qK, qD⟩, va_recv hK hP (ci := 1) (q0 := 0) rfl rfl, fun U hU hW => ⟨rfl, by rw [hU], by rw [hU]; exact hP, va_K.moved hW.alike hK, hD.weaken (fun _ _ _ _ => trivial)⟩⟩ rfl rfl hl.1 rfl (lv_room (Nat.le_of_ble_eq_true rfl)) dM_step_52 ⟨Nat.le_of_ble_eq_true rfl, Nat.le_of_ble_eq_true rfl⟩) hS (fun q _ h => hFc q h) hFc (fun r_52 u t H1 locs ht hvm hq hB hz1 hk1 hS => ?_)
        obtain ⟨hq1, hq⟩ := hq
        have hq1 : r_52 = 0 := hq1
        subst hq1
        obtain rfl := hq
        obtain ⟨hP1, hK1, hD1⟩ := hB
        rw [ht] at hP1
        have hP : va_P (dC, dI) cls2 (mw r cI cZ (b) (va_up (g) 0 (nI (mTh false false false)))) H1 := hP1
        have hD : va_D A (mw r cI cZ (b) (va_up (g) 0 (nI (mTh false false false)))) := hD1.weaken (fun _ _ _ h => hFc _ h)
        generalize H1 = H at hP hS ⊢
        refine lv_if_eq (tgt := 60) hx hb dM_step_55 (by decide) (fun _ => ?_) (fun c9 => absurd c9 (by decide))
        refine lv_aload_n hx hb dM_step_60 rfl (lv_at hl 1 rfl) ?_
        refine va_get (D := (dC, dI)) (ci := 1) (v := .ref (r 4)) (C := "EventPatternsModel") (T := TM) (N := 16) hx hb hbw inM hown hK hP 0 rfl rfl 8 (by decide) (hbw _ kf_M_19) (fun _ h9 => h9) rfl dM_step_61 ?_
        refine lv_aload_n hx hb dM_step_64 rfl (lv_at hl 1 rfl) ?_
        refine va_get (D := (dC, dI)) (ci := 1) (v := .int (nI (ms))) (C := "EventPatternsModel") (T := TM) (N := 16) hx hb hbw inM hown hK hP 0 rfl rfl 7 (by decide) (hbw _ kf_M_63) (fun _ h9 => h9) (congrArg (fun z => some (Value.int z)) (hg4)) dM_step_65 ?_
        refine lv_iload_n hx hb dM_step_68 rfl (lv_at hl 2 rfl) ?_
        refine nr_iast hx hb hK hP hD hS 4 0 rfl rfl (j := ms) (by omega) (by decide) dM_step_69 (fun H locs hP hD hS => ?_)
        have hP : va_P (dC, dI) cls2 (mw r cI cZ (va_up (b) 3 (upd (b 3) (ms) (ki))) (va_up (g) 0 (nI (mTh false false false)))) H := hP
        have hD : va_D A (mw r cI cZ (va_up (b) 3 (upd (b 3) (ms) (ki))) (va_up (g) 0 (nI (mTh false false false)))) := hD
        refine lv_aload_n hx hb dM_step_70 rfl (lv_at hl 1 rfl) ?_
        refine va_get (D := (dC, dI)) (ci := 1) (v := .ref (r 5)) (C := "EventPatternsModel") (T := TM) (N := 16) hx hb hbw inM hown hK hP 0 rfl rfl 9 (by decide) (hbw _ kf_M_22) (fun _ h9 => h9) rfl dM_step_71 ?_
        refine lv_aload_n hx hb dM_step_74 rfl (lv_at hl 1 rfl) ?_
        refine va_get (D := (dC, dI)) (ci := 1) (v := .int (nI (ms))) (C := "EventPatternsModel") (T := TM) (N := 16) hx hb hbw inM hown hK hP 0 rfl rfl 7 (by decide) (hbw _ kf_M_63) (fun _ h9 => h9) (congrArg (fun z => some (Value.int z)) (hg4)) dM_step_75 ?_
        refine lv_iload_n hx hb dM_step_78 rfl (lv_at hl 3 rfl) ?_
        refine nr_iast hx hb hK hP hD hS 5 0 rfl rfl (j := ms) (by omega) (by decide) dM_step_79 (fun H locs hP hD hS => ?_)
        have hP : va_P (dC, dI) cls2 (mw r cI cZ (va_up (va_up (b) 3 (upd (b 3) (ms) (ki))) 4 (upd (b 4) (ms) (te))) (va_up (g) 0 (nI (mTh false false false)))) H := hP
        have hD : va_D A (mw r cI cZ (va_up (va_up (b) 3 (upd (b 3) (ms) (ki))) 4 (upd (b 4) (ms) (te))) (va_up (g) 0 (nI (mTh false false false)))) := hD
        refine lv_aload_n hx hb dM_step_80 rfl (lv_at hl 1 rfl) ?_
        refine va_get (D := (dC, dI)) (ci := 1) (v := .ref (r 6)) (C := "EventPatternsModel") (T := TM) (N := 16) hx hb hbw inM hown hK hP 0 rfl rfl 10 (by decide) (hbw _ kf_M_25) (fun _ h9 => h9) rfl dM_step_81 ?_
        refine lv_aload_n hx hb dM_step_84 rfl (lv_at hl 1 rfl) ?_
        refine va_get (D := (dC, dI)) (ci := 1) (v := .int (nI (ms))) (C := "EventPatternsModel") (T := TM) (N := 16) hx hb hbw inM hown hK hP 0 rfl rfl 7 (by decide) (hbw _ kf_M_63) (fun _ h9 => h9) (congrArg (fun z => some (Value.int z)) (hg4)) dM_step_85 ?_
        refine lv_iload_n hx hb dM_step_88 rfl (lv_at hl 4 rfl) ?_
        refine nr_iast hx hb hK hP hD hS 6 0 rfl rfl (j := ms) (by omega) (by decide) dM_step_89 (fun H locs hP hD hS => ?_)
        have hP : va_P (dC, dI) cls2 (mw r cI cZ (va_up (va_up (va_up (b) 3 (upd (b 3) (ms) (ki))) 4 (upd (b 4) (ms) (te))) 5 (upd (b 5) (ms) (nn))) (va_up (g) 0 (nI (mTh false false false)))) H := hP
        have hD : va_D A (mw r cI cZ (va_up (va_up (va_up (b) 3 (upd (b 3) (ms) (ki))) 4 (upd (b 4) (ms) (te))) 5 (upd (b 5) (ms) (nn))) (va_up (g) 0 (nI (mTh false false false)))) := hD
        refine lv_aload_n hx hb dM_step_90 rfl (lv_at hl 1 rfl) ?_
        refine va_get (D := (dC, dI)) (ci := 1) (v := .ref (r 7)) (C := "EventPatternsModel") (T := TM) (N := 16) hx hb hbw inM hown hK hP 0 rfl rfl 11 (by decide) (hbw _ kf_M_28) (fun _ h9 => h9) rfl dM_step_91 ?_
        refine lv_aload_n hx hb dM_step_94 rfl (lv_at hl 1 rfl) ?_
        refine va_get (D := (dC, dI)) (ci := 1) (v := .int (nI (ms))) (C := "EventPatternsModel") (T := TM) (N := 16) hx hb hbw inM hown hK hP 0 rfl rfl 7 (by decide) (hbw _ kf_M_63) (fun _ h9 => h9) (congrArg (fun z => some (Value.int z)) (hg4)) dM_step_95 ?_
        refine lv_iload hx hb dM_step_98 (lv_at hl 5 rfl) ?_
        refine nr_zast hx hb hK hP hD hS 7 1 rfl rfl (j := ms) (by omega) (by decide) dM_step_100 (fun H locs hP hD hS => ?_)
        have hP : va_P (dC, dI) cls2 (mw r cI cZ (va_up (va_up (va_up (va_up (b) 3 (upd (b 3) (ms) (ki))) 4 (upd (b 4) (ms) (te))) 5 (upd (b 5) (ms) (nn))) 6 (upd (b 6) (ms) (vp_nar .boolean (mb)))) (va_up (g) 0 (nI (mTh false false false)))) H := hP
        have hD : va_D A (mw r cI cZ (va_up (va_up (va_up (va_up (b) 3 (upd (b 3) (ms) (ki))) 4 (upd (b 4) (ms) (te))) 5 (upd (b 5) (ms) (nn))) 6 (upd (b 6) (ms) (vp_nar .boolean (mb)))) (va_up (g) 0 (nI (mTh false false false)))) := hD
        refine lv_aload_n hx hb dM_step_101 rfl (lv_at hl 1 rfl) ?_
        refine lv_dup hx hb dM_step_102 rfl ?_
        refine va_get (D := (dC, dI)) (ci := 1) (v := .int (nI (ms))) (C := "EventPatternsModel") (T := TM) (N := 16) hx hb hbw inM hown hK hP 0 rfl rfl 7 (by decide) (hbw _ kf_M_63) (fun _ h9 => h9) (congrArg (fun z => some (Value.int z)) (hg4)) dM_step_103 ?_
        refine lv_iconst (v := 1) hx hb dM_step_106 (by decide) ?_
        refine nr_iadd hx hb (a1 := ms) (b1 := 1) dM_step_107 ?_
        refine va_put (D := (dC, dI)) (ci := 1) (v := .int (nI (ms + 1))) (ty := .int) (C := "EventPatternsModel") (T := TM) (N := 16) hx hb hbw inM tyM okM nmM hown hK hP hD hS 0 rfl rfl 7 (by decide) (hbw _ kf_M_63) (fun _ h9 => h9) rfl (by decide +kernel) rfl rfl (Nat.le_of_ble_eq_true rfl) dM_step_108 (fun H locs hP hD hS => ?_)
        have hP : va_P (dC, dI) cls2 (mw r cI cZ (va_up (va_up (va_up (va_up (b) 3 (upd (b 3) (ms) (ki))) 4 (upd (b 4) (ms) (te))) 5 (upd (b 5) (ms) (nn))) 6 (upd (b 6) (ms) (vp_nar .boolean (mb)))) (va_up (va_up (g) 0 (nI (mTh false false false))) 4 (nI (ms + 1)))) H := hP
        have hD : va_D A (mw r cI cZ (va_up (va_up (va_up (va_up (b) 3 (upd (b 3) (ms) (ki))) 4 (upd (b 4) (ms) (te))) 5 (upd (b 5) (ms) (nn))) 6 (upd (b 6) (ms) (vp_nar .boolean (mb)))) (va_up (va_up (g) 0 (nI (mTh false false false))) 4 (nI (ms + 1)))) := hD
        refine lv_aload_n hx hb dM_step_111 rfl (lv_at hl 1 rfl) ?_
        refine va_get (D := (dC, dI)) (ci := 1) (v := .int (nI (ms + 1))) (C := "EventPatternsModel") (T := TM) (N := 16) hx hb hbw inM hown hK hP 0 rfl rfl 7 (by decide) (hbw _ kf_M_63) (fun _ h9 => h9) rfl dM_step_112 ?_
        refine lv_iconst (v := 1) hx hb dM_step_115 (by decide) ?_
        refine nr_isub hx hb (a1 := ms + 1) (b1 := 1) (by omega) dM_step_116 ?_
        have hT : mStT ms ki te = 0 := by first | (rw [mStT, c_8, c_17, decide_eq_true c_43]; rfl) | (rw [mStT, c_8, c_17, decide_eq_false c_43]; rfl) | (rw [mStT, c_8, decide_eq_true c_43]; rfl) | (rw [mStT, c_8, decide_eq_false c_43]; rfl)
        exact W.iret (v := nI ((ms + 1) - 1)) hx hb hr (fun t ht hW => ⟨⟨nI ((ms + 1) - 1), (mStB b ms ki te nn mb, va_up (va_up g 0 (nI (mTh false false false))) 4 (nI (ms + 1))), rfl, ⟨fun _ => ⟨by rw [Nat.add_sub_cancel], rfl⟩, fun h9 => absurd hT h9⟩, by rw [ht]; exact hP, va_K.moved hW.alike hK, hD⟩, hS.F ht⟩) hS.2.2 dM_step_117
      · refine lv_iconst (v := 1) hx hb dM_step_46 (by decide) ?_
        refine lv_goto (tgt := 51) hx hb dM_step_47 (by decide) ?_
        refine lv_iconst (v := 0) hx hb dM_step_51 (by decide) ?_
        have hFc := va_free (wc := mw r cI cZ (b) (g)) hD hS hA (List.range 11) rfl
        refine va_calli (va_runV (As := [.int (0), .int (1), .int (0)]) (rest := []) ⟨hx, hb, hml, hown, hbw⟩ (tM_refuse l dC dI r cI cZ cG (b) (g) s.heap.size false true false) (cwV 3 hbw (bw_V km_M_53 ki_yM_refuse ksel_yM_refuse ki_EventPatternsModel kcM_refuse) rfl rfl rfl (by decide +kernel) ⟨Nat.le_of_ble_eq_true rfl, Nat.le_of_ble_eq_true rfl⟩) ⟨fun a U g mk q => by obtain ⟨q0, q1, qP, qK, qD⟩ := q; exact ⟨q0, q1, qP, va_K.moved (u := U) (U := U.calling g mk a) (Vm.Alike.refl U.vm) qK, qD⟩, va_recv hK hP (ci := 1) (q0 := 0) rfl rfl, fun U hU hW => ⟨rfl, by rw [hU], by rw [hU]; exact hP, va_K.moved hW.alike hK, hD.weaken (fun _ _ _ _ => trivial)⟩⟩ rfl rfl hl.1 rfl (lv_room (Nat.le_of_ble_eq_true rfl)) dM_step_52 ⟨Nat.le_of_ble_eq_true rfl, Nat.le_of_ble_eq_true rfl⟩) hS (fun q _ h => hFc q h) hFc (fun r_52 u t H1 locs ht hvm hq hB hz1 hk1 hS => ?_)
        obtain ⟨hq1, hq⟩ := hq
        have hq1 : r_52 = 1 := hq1
        subst hq1
        obtain rfl := hq
        obtain ⟨hP1, hK1, hD1⟩ := hB
        rw [ht] at hP1
        have hP : va_P (dC, dI) cls2 (mw r cI cZ (b) (va_up (g) 0 (nI (mTh false true false)))) H1 := hP1
        have hD : va_D A (mw r cI cZ (b) (va_up (g) 0 (nI (mTh false true false)))) := hD1.weaken (fun _ _ _ h => hFc _ h)
        generalize H1 = H at hP hS ⊢
        refine lv_if_eq (tgt := 60) hx hb dM_step_55 (by decide) (fun c9 => absurd c9 (by decide)) (fun _ => ?_)
        refine lv_iconst (v := 0) hx hb dM_step_58 (by decide) ?_
        have hT : mStT ms ki te = mTh false true false := by first | (rw [mStT, c_8, c_17, decide_eq_true c_43]; rfl) | (rw [mStT, c_8, c_17, decide_eq_false c_43]; rfl) | (rw [mStT, c_8, decide_eq_true c_43]; rfl) | (rw [mStT, c_8, decide_eq_false c_43]; rfl)
        rw [← hT] at hP hD
        exact W.iret (v := 0) hx hb hr (fun t ht hW => ⟨⟨0, (b, va_up g 0 (nI (mStT ms ki te))), rfl, ⟨fun h9 => absurd h9 (by rw [hT]; decide), fun _ => rfl⟩, by rw [ht]; exact hP, va_K.moved hW.alike hK, hD⟩, hS.F ht⟩) hS.2.2 dM_step_59
end
section
/-! THE REFERENCE: waysFrom -/
def mN1 (b : Nat → Nat → Int32) (g : Nat → Int32) (ev fi e1 st : Nat) (nn : Int32) (nx : Nat) (y : Nat → Int32) : Nat → Int32 := if b 6 st = 0 ∨ mFit1 b g nx st e1 fi = false then y else upd y (5 * (nx - (ev - 16)) + st) (y (5 * (nx - (ev - 16)) + st) + nn)
def mN2 (b : Nat → Nat → Int32) (g : Nat → Int32) (ev ms fi e1 st : Nat) (nn : Int32) (nx : Nat) (y : Nat → Int32) : Nat → Int32 := if ms ≤ st + 1 ∨ mFit1 b g nx (st + 1) e1 fi = false then y else upd y (5 * (nx - (ev - 16)) + st + 1) (y (5 * (nx - (ev - 16)) + st + 1) + nn)
def mWN (b : Nat → Nat → Int32) (g : Nat → Int32) (ev ms fi e1 st ed : Nat) (nn : Int32) : Nat → Nat → (Nat → Int32) → (Nat → Int32)
  | 0, _, y => y
  | k + 1, nx, y => if nx < ed ∧ 0 < nn then mWN b g ev ms fi e1 st ed nn k (nx + 1) (mN2 b g ev ms fi e1 st nn nx (mN1 b g ev fi e1 st nn nx y)) else y
theorem mWN_out {b : Nat → Nat → Int32} {g : Nat → Int32} {ev ms fi e1 st ed k nx : Nat} {nn : Int32} {y : Nat → Int32} (h : ¬ (nx < ed ∧ 0 < nn)) : mWN b g ev ms fi e1 st ed nn (k + 1) nx y = y := by rw [mWN, if_neg h]
theorem mWN_in {b : Nat → Nat → Int32} {g : Nat → Int32} {ev ms fi e1 st ed k nx : Nat} {nn : Int32} {y y2 : Nat → Int32} (hk : 1 ≤ k) (h1 : nx < ed) (h2 : 0 < nn) (h3 : mN2 b g ev ms fi e1 st nn nx (mN1 b g ev fi e1 st nn nx y) = y2) : mWN b g ev ms fi e1 st ed nn (k + 1) nx y = mWN b g ev ms fi e1 st ed nn (k - 1 + 1) (nx + 1) y2 := by
  rw [mWN, if_pos ⟨h1, h2⟩, h3, show k - 1 + 1 = k by omega]
def mAcc (ev ms e1 st : Nat) (lt : Bool) (acc nn : Int32) : Int32 := if st + 1 = ms ∧ (lt = false ∨ e1 + 1 = ev) then acc + nn else acc
def mWS (b : Nat → Nat → Int32) (g : Nat → Int32) (ev ms fi e1 ed : Nat) (lt : Bool) : Nat → Nat → Int32 → (Nat → Int32) → Int32 × (Nat → Int32)
  | 0, _, acc, y => (acc, y)
  | k + 1, st, acc, y => if st < ms then mWS b g ev ms fi e1 ed lt k (st + 1) (mAcc ev ms e1 st lt acc (y (5 * (e1 - (ev - 16)) + st))) (mWN b g ev ms fi e1 st ed (y (5 * (e1 - (ev - 16)) + st)) (ed + 1) (e1 + 1) y) else (acc, y)
theorem mWS_out {b : Nat → Nat → Int32} {g : Nat → Int32} {ev ms fi e1 ed k st : Nat} {lt : Bool} {acc : Int32} {y : Nat → Int32} (h : ms ≤ st) : mWS b g ev ms fi e1 ed lt (k + 1) st acc y = (acc, y) := by rw [mWS, if_neg (by omega)]
theorem mWS_in {b : Nat → Nat → Int32} {g : Nat → Int32} {ev ms fi e1 ed k st : Nat} {lt : Bool} {acc : Int32} {y : Nat → Int32} (hk : 1 ≤ k) (h : st < ms) : mWS b g ev ms fi e1 ed lt (k + 1) st acc y = mWS b g ev ms fi e1 ed lt (k - 1 + 1) (st + 1) (mAcc ev ms e1 st lt acc (y (5 * (e1 - (ev - 16)) + st))) (mWN b g ev ms fi e1 st ed (y (5 * (e1 - (ev - 16)) + st)) (ed + 1) (e1 + 1) y) := by
  rw [mWS, if_pos h, show k - 1 + 1 = k by omega]
def mEnd (g : Nat → Int32) (ev e1 : Nat) : Nat := if g 2 = 0 ∧ e1 + 2 < ev then e1 + 2 else ev
def mWE (b : Nat → Nat → Int32) (g : Nat → Int32) (ev ms fi : Nat) (lt : Bool) : Nat → Nat → Int32 → (Nat → Int32) → Int32 × (Nat → Int32)
  | 0, _, acc, y => (acc, y)
  | k + 1, e1, acc, y => if e1 < ev then mWE b g ev ms fi lt k (e1 + 1) (mWS b g ev ms fi e1 (mEnd g ev e1) lt (ms + 1) 0 acc y).1 (mWS b g ev ms fi e1 (mEnd g ev e1) lt (ms + 1) 0 acc y).2 else (acc, y)
theorem mWE_out {b : Nat → Nat → Int32} {g : Nat → Int32} {ev ms fi k e1 : Nat} {lt : Bool} {acc : Int32} {y : Nat → Int32} (h : ev ≤ e1) : mWE b g ev ms fi lt (k + 1) e1 acc y = (acc, y) := by rw [mWE, if_neg (by omega)]
theorem mWE_in {b : Nat → Nat → Int32} {g : Nat → Int32} {ev ms fi k e1 ed : Nat} {lt : Bool} {acc : Int32} {y : Nat → Int32} (hk : 1 ≤ k) (h : e1 < ev) (hed : mEnd g ev e1 = ed) : mWE b g ev ms fi lt (k + 1) e1 acc y = mWE b g ev ms fi lt (k - 1 + 1) (e1 + 1) (mWS b g ev ms fi e1 ed lt (ms + 1) 0 acc y).1 (mWS b g ev ms fi e1 ed lt (ms + 1) 0 acc y).2 := by
  rw [mWE, if_pos h, hed, show k - 1 + 1 = k by omega]
set_option maxHeartbeats 4000000 in
set_option maxRecDepth 100000 in
theorem lM_N (l : Launch) (dC : Nat → ClassId) (dI : Nat → Nat → Nat) (r : Nat → Nat) (cI cZ cG : ClassId) (b : Nat → Nat → Int32) (g : Nat → Int32) {p : Program} {e : Env} {s : State} {m : MethodId} {args : Array Value} {below : List Frame} {meth : Method} {c : Code} {Q : State → Prop} {A : Nat → Prop} (ev ms fi : Nat) (e0 s0 : Int32) (lt : Bool) (hev : ev ≤ 400) (hg1 : g 1 = nI ev) (h0 : 1 ≤ ms) (hm : ms ≤ 5) (hg4 : g 4 = nI ms) (hfi : fi < 400) {cells slots : Nat} (hcs : cells ≤ 0 ∧ slots ≤ 0) (hx : p.tables.exec = Jvm.exec) (hb : c.code = cM_waysFrom) (hml : c.maxLocals = 13) (hown : s.vm.findClass "EventPatternsModel" = some m.cls) (hbw : ∀ w ∈ bw, w.before args s = true) (hK : va_K (dC, dI) cls2 (xt cI cZ cG) s) (e1 st ed : Nat) (acc nn : Int32) (he : e1 < ev) (he2 : ev - 16 ≤ e1) (hst : st < ms) (hed : ed ≤ ev) :
    ∀ (k nx : Nat) (y : Nat → Int32) (H : Heap) (locs : List Loc) (ls : Array Slot), ed ≤ nx + k → e1 < nx → nx ≤ ev → lv_has ls 13 [(11, .int (nI (nx))), (6, .int (acc)), (7, .int (nI (e1))), (8, .int (nI (ed))), (9, .int (nI (st))), (10, .int (nn)), (0, .ref (r 0)), (1, .int (nI (fi))), (2, .int (e0)), (3, .int (s0)), (4, .int (bI (lt))), (5, .int (nI (ev - 16)))] → va_P (dC, dI) cls2 (mw r cI cZ (va_up b 7 (y)) g) H → va_D A (mw r cI cZ (va_up b 7 (y)) g) → va_S A s.heap H locs →
      (∀ (H : Heap) (locs : List Loc) (ls : Array Slot), lv_has ls 13 [(6, .int (acc)), (7, .int (nI (e1))), (8, .int (nI (ed))), (9, .int (nI (st))), (10, .int (nn)), (0, .ref (r 0)), (1, .int (nI (fi))), (2, .int (e0)), (3, .int (s0)), (4, .int (bI (lt))), (5, .int (nI (ev - 16)))] → va_P (dC, dI) cls2 (mw r cI cZ (va_up b 7 (mWN b g ev ms fi e1 st ed nn (k + 1) nx y)) g) H → va_D A (mw r cI cZ (va_up b 7 (mWN b g ev ms fi e1 st ed nn (k + 1) nx y)) g) → va_S A s.heap H locs → W p l e ({ frames := 1, cells := 0, slots := 0, locals := 25 }) s m args below meth c H locs cells slots Q (F0 m 274 ls [])) → W p l e ({ frames := 1, cells := 0, slots := 0, locals := 25 }) s m args below meth c H locs cells slots Q (F0 m 164 ls []) := by
  intro k
  induction k using Nat.strongRecOn with
  | ind k ih =>
    intro nx y H locs ls hk hn1 hn2 hl hP hD hS kk
    refine lv_iload hx hb dM_waysFrom_164 (lv_at hl 0 rfl) ?_
    refine lv_iload hx hb dM_waysFrom_166 (lv_at hl 3 rfl) ?_
    refine nr_icmp_ge (tgt := 274) hx hb (a1 := nx) (b1 := ed) (by omega) (by omega) dM_waysFrom_168 (by decide) (fun c_168 => ?_) (fun c_168 => ?_)
    · rw [mWN_out (by first | (rintro ⟨u1, u2⟩; omega) | (rintro ⟨u1, u2⟩; exact absurd c_173 (Int32.not_le.mpr u2)))] at kk
      exact kk H locs ls (lv_sub hl [1, 2, 3, 4, 5, 6, 7, 8, 9, 10, 11] rfl) hP hD hS
    · refine lv_iload hx hb dM_waysFrom_171 (lv_at hl 5 rfl) ?_
      refine lv_if_le (tgt := 274) hx hb dM_waysFrom_173 (by decide) (fun c_173 => ?_) (fun c_173 => ?_)
      · rw [mWN_out (by first | (rintro ⟨u1, u2⟩; omega) | (rintro ⟨u1, u2⟩; exact absurd c_173 (Int32.not_le.mpr u2)))] at kk
        exact kk H locs ls (lv_sub hl [1, 2, 3, 4, 5, 6, 7, 8, 9, 10, 11] rfl) hP hD hS
      · refine lv_iconst (v := 5) hx hb dM_waysFrom_176 (by decide) ?_
        refine lv_iload hx hb dM_waysFrom_177 (lv_at hl 0 rfl) ?_
        refine lv_iload hx hb dM_waysFrom_179 (lv_at hl 11 rfl) ?_
        refine nr_isub hx hb (a1 := nx) (b1 := ev - 16) (by omega) dM_waysFrom_181 ?_
        refine nr_imul hx hb (a1 := 5) (b1 := nx - (ev - 16)) dM_waysFrom_182 ?_
        refine lv_istore (lv' := [(12, .int (nI (5 * (nx - (ev - 16))))), (11, .int (nI (nx))), (6, .int (acc)), (7, .int (nI (e1))), (8, .int (nI (ed))), (9, .int (nI (st))), (10, .int (nn)), (0, .ref (r 0)), (1, .int (nI (fi))), (2, .int (e0)), (3, .int (s0)), (4, .int (bI (lt))), (5, .int (nI (ev - 16)))]) hx hb dM_waysFrom_183 hl (by decide) rfl (fun ls hl => ?_)
        refine lv_aload_n hx hb dM_waysFrom_185 rfl (lv_at hl 7 rfl) ?_
        refine va_get (D := (dC, dI)) (ci := 1) (v := .ref (r 7)) (C := "EventPatternsModel") (T := TM) (N := 16) hx hb hbw inM hown hK hP 0 rfl rfl 11 (by decide) (hbw _ kf_M_28) (fun _ h9 => h9) rfl dM_waysFrom_186 ?_
        refine lv_iload hx hb dM_waysFrom_189 (lv_at hl 5 rfl) ?_
        refine nr_zald (f := b 6) hx hb hK hP 7 1 rfl rfl (j := st) (by omega) (by decide) dM_waysFrom_191 ?_
        refine lv_if_eq (tgt := 224) hx hb dM_waysFrom_192 (by decide) (fun c_192 => ?_) (fun c_192 => ?_)
        · refine lv_iload hx hb dM_waysFrom_224 (lv_at hl 5 rfl) ?_
          refine lv_iconst (v := 1) hx hb dM_waysFrom_226 (by decide) ?_
          refine nr_iadd hx hb (a1 := st) (b1 := 1) dM_waysFrom_227 ?_
          refine lv_aload_n hx hb dM_waysFrom_228 rfl (lv_at hl 7 rfl) ?_
          refine va_get (D := (dC, dI)) (ci := 1) (v := .int (nI (ms))) (C := "EventPatternsModel") (T := TM) (N := 16) hx hb hbw inM hown hK hP 0 rfl rfl 7 (by decide) (hbw _ kf_M_63) (fun _ h9 => h9) (congrArg (fun z => some (Value.int z)) (hg4)) dM_waysFrom_229 ?_
          refine nr_icmp_ge (tgt := 268) hx hb (a1 := st + 1) (b1 := ms) (by omega) (by omega) dM_waysFrom_232 (by decide) (fun c_232 => ?_) (fun c_232 => ?_)
          · refine lv_iinc (v := nI (nx + 1)) (lv' := [(11, .int (nI (nx + 1))), (12, .int (nI (5 * (nx - (ev - 16))))), (6, .int (acc)), (7, .int (nI (e1))), (8, .int (nI (ed))), (9, .int (nI (st))), (10, .int (nn)), (0, .ref (r 0)), (1, .int (nI (fi))), (2, .int (e0)), (3, .int (s0)), (4, .int (bI (lt))), (5, .int (nI (ev - 16)))]) hx hb dM_waysFrom_268 hl (k := 1) rfl (nI_1 _) (by decide) rfl (fun ls hl => ?_)
            refine lv_goto (tgt := 164) hx hb dM_waysFrom_271 (by decide) ?_
            have hy : mN2 b g ev ms fi e1 st nn nx (mN1 b g ev fi e1 st nn nx y) = y := by
              first | rw [mN1, if_pos (Or.inl c_192)] | rw [mN1, if_pos (Or.inr c_206)] | rw [mN1, if_neg (fun h => h.elim c_192 (fun h => by rw [c_206] at h; cases h))]
              first | rw [mN2, if_pos (Or.inl (by omega))] | rw [mN2, if_pos (Or.inr c_248)] | rw [mN2, if_neg (fun h => h.elim (fun h => by omega) (fun h => by rw [c_248] at h; cases h))]
            exact ih (k - 1) (by omega) (nx + 1) _ _ _ ls (by omega) (by omega) (by omega) (lv_sub hl [0, 2, 3, 4, 5, 6, 7, 8, 9, 10, 11, 12] rfl) hP hD hS (fun H locs ls hl hP hD hS => by rw [mWN_in (by omega) c_168 (Int32.not_le.mp c_173) hy] at kk; exact kk H locs ls hl hP hD hS)
          · refine lv_aload_n hx hb dM_waysFrom_235 rfl (lv_at hl 7 rfl) ?_
            refine lv_iload hx hb dM_waysFrom_236 (lv_at hl 1 rfl) ?_
            refine lv_iload hx hb dM_waysFrom_238 (lv_at hl 5 rfl) ?_
            refine lv_iconst (v := 1) hx hb dM_waysFrom_240 (by decide) ?_
            refine nr_iadd hx hb (a1 := st) (b1 := 1) dM_waysFrom_241 ?_
            refine lv_iload hx hb dM_waysFrom_242 (lv_at hl 3 rfl) ?_
            refine lv_iload_n hx hb dM_waysFrom_244 rfl (lv_at hl 8 rfl) ?_
            refine vp_callSi (W.runV (As := [.int (nI (nx)), .int (nI (st + 1)), .int (nI (e1)), .int (nI (fi))]) (rest := []) ⟨hx, hb, hml, hown, hbw⟩ (tM_fits1 l dC dI r cI cZ cG (va_up b 7 (y)) (g) (nx) (st + 1) (e1) (fi) (by omega) (by omega) (by omega) (by omega)) (cwV 4 hbw (bw_V km_M_70 ki_yM_fits ksel_yM_fits ki_EventPatternsModel kcM_fits) rfl rfl rfl (by decide +kernel) ⟨Nat.le_of_ble_eq_true rfl, Nat.le_of_ble_eq_true rfl⟩) ⟨fun a U g mk q => by obtain ⟨q0, qP, qK⟩ := q; exact ⟨q0, qP, va_K.moved (u := U) (U := U.calling g mk a) (Vm.Alike.refl U.vm) qK⟩, va_recv hK hP (ci := 1) (q0 := 0) rfl rfl, fun U hU hW => ⟨rfl, by rw [hU]; exact hP, va_K.moved hW.alike hK⟩⟩ rfl rfl hl.1 rfl (lv_room (Nat.le_of_ble_eq_true rfl)) dM_waysFrom_245 ⟨hcs.1, hcs.2⟩) (fun r_245 hq => ?_)
            have hq : r_245 = bI (mFit1 b g (nx) (st + 1) (e1) (fi)) := hq
            subst hq
            refine nr_ifb_eq (tgt := 268) hx hb (b := (mFit1 b g (nx) (st + 1) (e1) (fi))) dM_waysFrom_248 (by decide) (fun c_248 => ?_) (fun c_248 => ?_)
            · refine lv_iinc (v := nI (nx + 1)) (lv' := [(11, .int (nI (nx + 1))), (12, .int (nI (5 * (nx - (ev - 16))))), (6, .int (acc)), (7, .int (nI (e1))), (8, .int (nI (ed))), (9, .int (nI (st))), (10, .int (nn)), (0, .ref (r 0)), (1, .int (nI (fi))), (2, .int (e0)), (3, .int (s0)), (4, .int (bI (lt))), (5, .int (nI (ev - 16)))]) hx hb dM_waysFrom_268 hl (k := 1) rfl (nI_1 _) (by decide) rfl (fun ls hl => ?_)
              refine lv_goto (tgt := 164) hx hb dM_waysFrom_271 (by decide) ?_
              have hy : mN2 b g ev ms fi e1 st nn nx (mN1 b g ev fi e1 st nn nx y) = y := by
                first | rw [mN1, if_pos (Or.inl c_192)] | rw [mN1, if_pos (Or.inr c_206)] | rw [mN1, if_neg (fun h => h.elim c_192 (fun h => by rw [c_206] at h; cases h))]
                first | rw [mN2, if_pos (Or.inl (by omega))] | rw [mN2, if_pos (Or.inr c_248)] | rw [mN2, if_neg (fun h => h.elim (fun h => by omega) (fun h => by rw [c_248] at h; cases h))]
              exact ih (k - 1) (by omega) (nx + 1) _ _ _ ls (by omega) (by omega) (by omega) (lv_sub hl [0, 2, 3, 4, 5, 6, 7, 8, 9, 10, 11, 12] rfl) hP hD hS (fun H locs ls hl hP hD hS => by rw [mWN_in (by omega) c_168 (Int32.not_le.mp c_173) hy] at kk; exact kk H locs ls hl hP hD hS)
            · refine lv_aload_n hx hb dM_waysFrom_251 rfl (lv_at hl 7 rfl) ?_
              refine va_get (D := (dC, dI)) (ci := 1) (v := .ref (r 8)) (C := "EventPatternsModel") (T := TM) (N := 16) hx hb hbw inM hown hK hP 0 rfl rfl 12 (by decide) (hbw _ kf_M_32) (fun _ h9 => h9) rfl dM_waysFrom_252 ?_
              refine lv_iload hx hb dM_waysFrom_255 (lv_at hl 0 rfl) ?_
              refine lv_iload hx hb dM_waysFrom_257 (lv_at hl 5 rfl) ?_
              refine nr_iadd hx hb (a1 := 5 * (nx - (ev - 16))) (b1 := st) dM_waysFrom_259 ?_
              refine lv_iconst (v := 1) hx hb dM_waysFrom_260 (by decide) ?_
              refine nr_iadd hx hb (a1 := (5 * (nx - (ev - 16))) + st) (b1 := 1) dM_waysFrom_261 ?_
              refine lv_dup2_11 hx hb dM_waysFrom_262 rfl rfl ?_
              refine nr_iald (f := y) hx hb hK hP 8 0 rfl rfl (j := ((5 * (nx - (ev - 16))) + st) + 1) (by omega) (by decide) dM_waysFrom_263 ?_
              refine lv_iload hx hb dM_waysFrom_264 (lv_at hl 6 rfl) ?_
              refine lv_iadd hx hb dM_waysFrom_266 ?_
              refine nr_iast (f := y) hx hb hK hP hD hS 8 0 rfl rfl (j := ((5 * (nx - (ev - 16))) + st) + 1) (by omega) (by decide) dM_waysFrom_267 (fun H locs hP hD hS => ?_)
              have hP : va_P (dC, dI) cls2 (mw r cI cZ (va_up b 7 (upd (y) (((5 * (nx - (ev - 16))) + st) + 1) (((y) (((5 * (nx - (ev - 16))) + st) + 1)) + (nn)))) (g)) H := hP
              have hD : va_D A (mw r cI cZ (va_up b 7 (upd (y) (((5 * (nx - (ev - 16))) + st) + 1) (((y) (((5 * (nx - (ev - 16))) + st) + 1)) + (nn)))) (g)) := hD
              refine lv_iinc (v := nI (nx + 1)) (lv' := [(11, .int (nI (nx + 1))), (12, .int (nI (5 * (nx - (ev - 16))))), (6, .int (acc)), (7, .int (nI (e1))), (8, .int (nI (ed))), (9, .int (nI (st))), (10, .int (nn)), (0, .ref (r 0)), (1, .int (nI (fi))), (2, .int (e0)), (3, .int (s0)), (4, .int (bI (lt))), (5, .int (nI (ev - 16)))]) hx hb dM_waysFrom_268 hl (k := 1) rfl (nI_1 _) (by decide) rfl (fun ls hl => ?_)
              refine lv_goto (tgt := 164) hx hb dM_waysFrom_271 (by decide) ?_
              have hy : mN2 b g ev ms fi e1 st nn nx (mN1 b g ev fi e1 st nn nx y) = upd (y) (((5 * (nx - (ev - 16))) + st) + 1) (((y) (((5 * (nx - (ev - 16))) + st) + 1)) + (nn)) := by
                first | rw [mN1, if_pos (Or.inl c_192)] | rw [mN1, if_pos (Or.inr c_206)] | rw [mN1, if_neg (fun h => h.elim c_192 (fun h => by rw [c_206] at h; cases h))]
                first | rw [mN2, if_pos (Or.inl (by omega))] | rw [mN2, if_pos (Or.inr c_248)] | rw [mN2, if_neg (fun h => h.elim (fun h => by omega) (fun h => by rw [c_248] at h; cases h))]
              exact ih (k - 1) (by omega) (nx + 1) _ _ _ ls (by omega) (by omega) (by omega) (lv_sub hl [0, 2, 3, 4, 5, 6, 7, 8, 9, 10, 11, 12] rfl) hP hD hS (fun H locs ls hl hP hD hS => by rw [mWN_in (by omega) c_168 (Int32.not_le.mp c_173) hy] at kk; exact kk H locs ls hl hP hD hS)
        · refine lv_aload_n hx hb dM_waysFrom_195 rfl (lv_at hl 7 rfl) ?_
          refine lv_iload hx hb dM_waysFrom_196 (lv_at hl 1 rfl) ?_
          refine lv_iload hx hb dM_waysFrom_198 (lv_at hl 5 rfl) ?_
          refine lv_iload hx hb dM_waysFrom_200 (lv_at hl 3 rfl) ?_
          refine lv_iload_n hx hb dM_waysFrom_202 rfl (lv_at hl 8 rfl) ?_
          refine vp_callSi (W.runV (As := [.int (nI (nx)), .int (nI (st)), .int (nI (e1)), .int (nI (fi))]) (rest := []) ⟨hx, hb, hml, hown, hbw⟩ (tM_fits1 l dC dI r cI cZ cG (va_up b 7 (y)) (g) (nx) (st) (e1) (fi) (by omega) (by omega) (by omega) (by omega)) (cwV 4 hbw (bw_V km_M_70 ki_yM_fits ksel_yM_fits ki_EventPatternsModel kcM_fits) rfl rfl rfl (by decide +kernel) ⟨Nat.le_of_ble_eq_true rfl, Nat.le_of_ble_eq_true rfl⟩) ⟨fun a U g mk q => by obtain ⟨q0, qP, qK⟩ := q; exact ⟨q0, qP, va_K.moved (u := U) (U := U.calling g mk a) (Vm.Alike.refl U.vm) qK⟩, va_recv hK hP (ci := 1) (q0 := 0) rfl rfl, fun U hU hW => ⟨rfl, by rw [hU]; exact hP, va_K.moved hW.alike hK⟩⟩ rfl rfl hl.1 rfl (lv_room (Nat.le_of_ble_eq_true rfl)) dM_waysFrom_203 ⟨hcs.1, hcs.2⟩) (fun r_203 hq => ?_)
          have hq : r_203 = bI (mFit1 b g (nx) (st) (e1) (fi)) := hq
          subst hq
          refine nr_ifb_eq (tgt := 224) hx hb (b := (mFit1 b g (nx) (st) (e1) (fi))) dM_waysFrom_206 (by decide) (fun c_206 => ?_) (fun c_206 => ?_)
          · refine lv_iload hx hb dM_waysFrom_224 (lv_at hl 5 rfl) ?_
            refine lv_iconst (v := 1) hx hb dM_waysFrom_226 (by decide) ?_
            refine nr_iadd hx hb (a1 := st) (b1 := 1) dM_waysFrom_227 ?_
            refine lv_aload_n hx hb dM_waysFrom_228 rfl (lv_at hl 7 rfl) ?_
            refine va_get (D := (dC, dI)) (ci := 1) (v := .int (nI (ms))) (C := "EventPatternsModel") (T := TM) (N := 16) hx hb hbw inM hown hK hP 0 rfl rfl 7 (by decide) (hbw _ kf_M_63) (fun _ h9 => h9) (congrArg (fun z => some (Value.int z)) (hg4)) dM_waysFrom_229 ?_
            refine nr_icmp_ge (tgt := 268) hx hb (a1 := st + 1) (b1 := ms) (by omega) (by omega) dM_waysFrom_232 (by decide) (fun c_232 => ?_) (fun c_232 => ?_)
            · refine lv_iinc (v := nI (nx + 1)) (lv' := [(11, .int (nI (nx + 1))), (12, .int (nI (5 * (nx - (ev - 16))))), (6, .int (acc)), (7, .int (nI (e1))), (8, .int (nI (ed))), (9, .int (nI (st))), (10, .int (nn)), (0, .ref (r 0)), (1, .int (nI (fi))), (2, .int (e0)), (3, .int (s0)), (4, .int (bI (lt))), (5, .int (nI (ev - 16)))]) hx hb dM_waysFrom_268 hl (k := 1) rfl (nI_1 _) (by decide) rfl (fun ls hl => ?_)
              refine lv_goto (tgt := 164) hx hb dM_waysFrom_271 (by decide) ?_
              have hy : mN2 b g ev ms fi e1 st nn nx (mN1 b g ev fi e1 st nn nx y) = y := by
                first | rw [mN1, if_pos (Or.inl c_192)] | rw [mN1, if_pos (Or.inr c_206)] | rw [mN1, if_neg (fun h => h.elim c_192 (fun h => by rw [c_206] at h; cases h))]
                first | rw [mN2, if_pos (Or.inl (by omega))] | rw [mN2, if_pos (Or.inr c_248)] | rw [mN2, if_neg (fun h => h.elim (fun h => by omega) (fun h => by rw [c_248] at h; cases h))]
              exact ih (k - 1) (by omega) (nx + 1) _ _ _ ls (by omega) (by omega) (by omega) (lv_sub hl [0, 2, 3, 4, 5, 6, 7, 8, 9, 10, 11, 12] rfl) hP hD hS (fun H locs ls hl hP hD hS => by rw [mWN_in (by omega) c_168 (Int32.not_le.mp c_173) hy] at kk; exact kk H locs ls hl hP hD hS)
            · refine lv_aload_n hx hb dM_waysFrom_235 rfl (lv_at hl 7 rfl) ?_
              refine lv_iload hx hb dM_waysFrom_236 (lv_at hl 1 rfl) ?_
              refine lv_iload hx hb dM_waysFrom_238 (lv_at hl 5 rfl) ?_
              refine lv_iconst (v := 1) hx hb dM_waysFrom_240 (by decide) ?_
              refine nr_iadd hx hb (a1 := st) (b1 := 1) dM_waysFrom_241 ?_
              refine lv_iload hx hb dM_waysFrom_242 (lv_at hl 3 rfl) ?_
              refine lv_iload_n hx hb dM_waysFrom_244 rfl (lv_at hl 8 rfl) ?_
              refine vp_callSi (W.runV (As := [.int (nI (nx)), .int (nI (st + 1)), .int (nI (e1)), .int (nI (fi))]) (rest := []) ⟨hx, hb, hml, hown, hbw⟩ (tM_fits1 l dC dI r cI cZ cG (va_up b 7 (y)) (g) (nx) (st + 1) (e1) (fi) (by omega) (by omega) (by omega) (by omega)) (cwV 4 hbw (bw_V km_M_70 ki_yM_fits ksel_yM_fits ki_EventPatternsModel kcM_fits) rfl rfl rfl (by decide +kernel) ⟨Nat.le_of_ble_eq_true rfl, Nat.le_of_ble_eq_true rfl⟩) ⟨fun a U g mk q => by obtain ⟨q0, qP, qK⟩ := q; exact ⟨q0, qP, va_K.moved (u := U) (U := U.calling g mk a) (Vm.Alike.refl U.vm) qK⟩, va_recv hK hP (ci := 1) (q0 := 0) rfl rfl, fun U hU hW => ⟨rfl, by rw [hU]; exact hP, va_K.moved hW.alike hK⟩⟩ rfl rfl hl.1 rfl (lv_room (Nat.le_of_ble_eq_true rfl)) dM_waysFrom_245 ⟨hcs.1, hcs.2⟩) (fun r_245 hq => ?_)
              have hq : r_245 = bI (mFit1 b g (nx) (st + 1) (e1) (fi)) := hq
              subst hq
              refine nr_ifb_eq (tgt := 268) hx hb (b := (mFit1 b g (nx) (st + 1) (e1) (fi))) dM_waysFrom_248 (by decide) (fun c_248 => ?_) (fun c_248 => ?_)
              · refine lv_iinc (v := nI (nx + 1)) (lv' := [(11, .int (nI (nx + 1))), (12, .int (nI (5 * (nx - (ev - 16))))), (6, .int (acc)), (7, .int (nI (e1))), (8, .int (nI (ed))), (9, .int (nI (st))), (10, .int (nn)), (0, .ref (r 0)), (1, .int (nI (fi))), (2, .int (e0)), (3, .int (s0)), (4, .int (bI (lt))), (5, .int (nI (ev - 16)))]) hx hb dM_waysFrom_268 hl (k := 1) rfl (nI_1 _) (by decide) rfl (fun ls hl => ?_)
                refine lv_goto (tgt := 164) hx hb dM_waysFrom_271 (by decide) ?_
                have hy : mN2 b g ev ms fi e1 st nn nx (mN1 b g ev fi e1 st nn nx y) = y := by
                  first | rw [mN1, if_pos (Or.inl c_192)] | rw [mN1, if_pos (Or.inr c_206)] | rw [mN1, if_neg (fun h => h.elim c_192 (fun h => by rw [c_206] at h; cases h))]
                  first | rw [mN2, if_pos (Or.inl (by omega))] | rw [mN2, if_pos (Or.inr c_248)] | rw [mN2, if_neg (fun h => h.elim (fun h => by omega) (fun h => by rw [c_248] at h; cases h))]
                exact ih (k - 1) (by omega) (nx + 1) _ _ _ ls (by omega) (by omega) (by omega) (lv_sub hl [0, 2, 3, 4, 5, 6, 7, 8, 9, 10, 11, 12] rfl) hP hD hS (fun H locs ls hl hP hD hS => by rw [mWN_in (by omega) c_168 (Int32.not_le.mp c_173) hy] at kk; exact kk H locs ls hl hP hD hS)
              · refine lv_aload_n hx hb dM_waysFrom_251 rfl (lv_at hl 7 rfl) ?_
                refine va_get (D := (dC, dI)) (ci := 1) (v := .ref (r 8)) (C := "EventPatternsModel") (T := TM) (N := 16) hx hb hbw inM hown hK hP 0 rfl rfl 12 (by decide) (hbw _ kf_M_32) (fun _ h9 => h9) rfl dM_waysFrom_252 ?_
                refine lv_iload hx hb dM_waysFrom_255 (lv_at hl 0 rfl) ?_
                refine lv_iload hx hb dM_waysFrom_257 (lv_at hl 5 rfl) ?_
                refine nr_iadd hx hb (a1 := 5 * (nx - (ev - 16))) (b1 := st) dM_waysFrom_259 ?_
                refine lv_iconst (v := 1) hx hb dM_waysFrom_260 (by decide) ?_
                refine nr_iadd hx hb (a1 := (5 * (nx - (ev - 16))) + st) (b1 := 1) dM_waysFrom_261 ?_
                refine lv_dup2_11 hx hb dM_waysFrom_262 rfl rfl ?_
                refine nr_iald (f := y) hx hb hK hP 8 0 rfl rfl (j := ((5 * (nx - (ev - 16))) + st) + 1) (by omega) (by decide) dM_waysFrom_263 ?_
                refine lv_iload hx hb dM_waysFrom_264 (lv_at hl 6 rfl) ?_
                refine lv_iadd hx hb dM_waysFrom_266 ?_
                refine nr_iast (f := y) hx hb hK hP hD hS 8 0 rfl rfl (j := ((5 * (nx - (ev - 16))) + st) + 1) (by omega) (by decide) dM_waysFrom_267 (fun H locs hP hD hS => ?_)
                have hP : va_P (dC, dI) cls2 (mw r cI cZ (va_up b 7 (upd (y) (((5 * (nx - (ev - 16))) + st) + 1) (((y) (((5 * (nx - (ev - 16))) + st) + 1)) + (nn)))) (g)) H := hP
                have hD : va_D A (mw r cI cZ (va_up b 7 (upd (y) (((5 * (nx - (ev - 16))) + st) + 1) (((y) (((5 * (nx - (ev - 16))) + st) + 1)) + (nn)))) (g)) := hD
                refine lv_iinc (v := nI (nx + 1)) (lv' := [(11, .int (nI (nx + 1))), (12, .int (nI (5 * (nx - (ev - 16))))), (6, .int (acc)), (7, .int (nI (e1))), (8, .int (nI (ed))), (9, .int (nI (st))), (10, .int (nn)), (0, .ref (r 0)), (1, .int (nI (fi))), (2, .int (e0)), (3, .int (s0)), (4, .int (bI (lt))), (5, .int (nI (ev - 16)))]) hx hb dM_waysFrom_268 hl (k := 1) rfl (nI_1 _) (by decide) rfl (fun ls hl => ?_)
                refine lv_goto (tgt := 164) hx hb dM_waysFrom_271 (by decide) ?_
                have hy : mN2 b g ev ms fi e1 st nn nx (mN1 b g ev fi e1 st nn nx y) = upd (y) (((5 * (nx - (ev - 16))) + st) + 1) (((y) (((5 * (nx - (ev - 16))) + st) + 1)) + (nn)) := by
                  first | rw [mN1, if_pos (Or.inl c_192)] | rw [mN1, if_pos (Or.inr c_206)] | rw [mN1, if_neg (fun h => h.elim c_192 (fun h => by rw [c_206] at h; cases h))]
                  first | rw [mN2, if_pos (Or.inl (by omega))] | rw [mN2, if_pos (Or.inr c_248)] | rw [mN2, if_neg (fun h => h.elim (fun h => by omega) (fun h => by rw [c_248] at h; cases h))]
                exact ih (k - 1) (by omega) (nx + 1) _ _ _ ls (by omega) (by omega) (by omega) (lv_sub hl [0, 2, 3, 4, 5, 6, 7, 8, 9, 10, 11, 12] rfl) hP hD hS (fun H locs ls hl hP hD hS => by rw [mWN_in (by omega) c_168 (Int32.not_le.mp c_173) hy] at kk; exact kk H locs ls hl hP hD hS)
          · refine lv_aload_n hx hb dM_waysFrom_209 rfl (lv_at hl 7 rfl) ?_
            refine va_get (D := (dC, dI)) (ci := 1) (v := .ref (r 8)) (C := "EventPatternsModel") (T := TM) (N := 16) hx hb hbw inM hown hK hP 0 rfl rfl 12 (by decide) (hbw _ kf_M_32) (fun _ h9 => h9) rfl dM_waysFrom_210 ?_
            refine lv_iload hx hb dM_waysFrom_213 (lv_at hl 0 rfl) ?_
            refine lv_iload hx hb dM_waysFrom_215 (lv_at hl 5 rfl) ?_
            refine nr_iadd hx hb (a1 := 5 * (nx - (ev - 16))) (b1 := st) dM_waysFrom_217 ?_
            refine lv_dup2_11 hx hb dM_waysFrom_218 rfl rfl ?_
            refine nr_iald (f := y) hx hb hK hP 8 0 rfl rfl (j := (5 * (nx - (ev - 16))) + st) (by omega) (by decide) dM_waysFrom_219 ?_
            refine lv_iload hx hb dM_waysFrom_220 (lv_at hl 6 rfl) ?_
            refine lv_iadd hx hb dM_waysFrom_222 ?_
            refine nr_iast (f := y) hx hb hK hP hD hS 8 0 rfl rfl (j := (5 * (nx - (ev - 16))) + st) (by omega) (by decide) dM_waysFrom_223 (fun H locs hP hD hS => ?_)
            have hP : va_P (dC, dI) cls2 (mw r cI cZ (va_up b 7 (upd (y) ((5 * (nx - (ev - 16))) + st) (((y) ((5 * (nx - (ev - 16))) + st)) + (nn)))) (g)) H := hP
            have hD : va_D A (mw r cI cZ (va_up b 7 (upd (y) ((5 * (nx - (ev - 16))) + st) (((y) ((5 * (nx - (ev - 16))) + st)) + (nn)))) (g)) := hD
            refine lv_iload hx hb dM_waysFrom_224 (lv_at hl 5 rfl) ?_
            refine lv_iconst (v := 1) hx hb dM_waysFrom_226 (by decide) ?_
            refine nr_iadd hx hb (a1 := st) (b1 := 1) dM_waysFrom_227 ?_
            refine lv_aload_n hx hb dM_waysFrom_228 rfl (lv_at hl 7 rfl) ?_
            refine va_get (D := (dC, dI)) (ci := 1) (v := .int (nI (ms))) (C := "EventPatternsModel") (T := TM) (N := 16) hx hb hbw inM hown hK hP 0 rfl rfl 7 (by decide) (hbw _ kf_M_63) (fun _ h9 => h9) (congrArg (fun z => some (Value.int z)) (hg4)) dM_waysFrom_229 ?_
            refine nr_icmp_ge (tgt := 268) hx hb (a1 := st + 1) (b1 := ms) (by omega) (by omega) dM_waysFrom_232 (by decide) (fun c_232 => ?_) (fun c_232 => ?_)
            · refine lv_iinc (v := nI (nx + 1)) (lv' := [(11, .int (nI (nx + 1))), (12, .int (nI (5 * (nx - (ev - 16))))), (6, .int (acc)), (7, .int (nI (e1))), (8, .int (nI (ed))), (9, .int (nI (st))), (10, .int (nn)), (0, .ref (r 0)), (1, .int (nI (fi))), (2, .int (e0)), (3, .int (s0)), (4, .int (bI (lt))), (5, .int (nI (ev - 16)))]) hx hb dM_waysFrom_268 hl (k := 1) rfl (nI_1 _) (by decide) rfl (fun ls hl => ?_)
              refine lv_goto (tgt := 164) hx hb dM_waysFrom_271 (by decide) ?_
              have hy : mN2 b g ev ms fi e1 st nn nx (mN1 b g ev fi e1 st nn nx y) = upd (y) ((5 * (nx - (ev - 16))) + st) (((y) ((5 * (nx - (ev - 16))) + st)) + (nn)) := by
                first | rw [mN1, if_pos (Or.inl c_192)] | rw [mN1, if_pos (Or.inr c_206)] | rw [mN1, if_neg (fun h => h.elim c_192 (fun h => by rw [c_206] at h; cases h))]
                first | rw [mN2, if_pos (Or.inl (by omega))] | rw [mN2, if_pos (Or.inr c_248)] | rw [mN2, if_neg (fun h => h.elim (fun h => by omega) (fun h => by rw [c_248] at h; cases h))]
              exact ih (k - 1) (by omega) (nx + 1) _ _ _ ls (by omega) (by omega) (by omega) (lv_sub hl [0, 2, 3, 4, 5, 6, 7, 8, 9, 10, 11, 12] rfl) hP hD hS (fun H locs ls hl hP hD hS => by rw [mWN_in (by omega) c_168 (Int32.not_le.mp c_173) hy] at kk; exact kk H locs ls hl hP hD hS)
            · refine lv_aload_n hx hb dM_waysFrom_235 rfl (lv_at hl 7 rfl) ?_
              refine lv_iload hx hb dM_waysFrom_236 (lv_at hl 1 rfl) ?_
              refine lv_iload hx hb dM_waysFrom_238 (lv_at hl 5 rfl) ?_
              refine lv_iconst (v := 1) hx hb dM_waysFrom_240 (by decide) ?_
              refine nr_iadd hx hb (a1 := st) (b1 := 1) dM_waysFrom_241 ?_
              refine lv_iload hx hb dM_waysFrom_242 (lv_at hl 3 rfl) ?_
              refine lv_iload_n hx hb dM_waysFrom_244 rfl (lv_at hl 8 rfl) ?_
              refine vp_callSi (W.runV (As := [.int (nI (nx)), .int (nI (st + 1)), .int (nI (e1)), .int (nI (fi))]) (rest := []) ⟨hx, hb, hml, hown, hbw⟩ (tM_fits1 l dC dI r cI cZ cG (va_up b 7 (upd (y) ((5 * (nx - (ev - 16))) + st) (((y) ((5 * (nx - (ev - 16))) + st)) + (nn)))) (g) (nx) (st + 1) (e1) (fi) (by omega) (by omega) (by omega) (by omega)) (cwV 4 hbw (bw_V km_M_70 ki_yM_fits ksel_yM_fits ki_EventPatternsModel kcM_fits) rfl rfl rfl (by decide +kernel) ⟨Nat.le_of_ble_eq_true rfl, Nat.le_of_ble_eq_true rfl⟩) ⟨fun a U g mk q => by obtain ⟨q0, qP, qK⟩ := q; exact ⟨q0, qP, va_K.moved (u := U) (U := U.calling g mk a) (Vm.Alike.refl U.vm) qK⟩, va_recv hK hP (ci := 1) (q0 := 0) rfl rfl, fun U hU hW => ⟨rfl, by rw [hU]; exact hP, va_K.moved hW.alike hK⟩⟩ rfl rfl hl.1 rfl (lv_room (Nat.le_of_ble_eq_true rfl)) dM_waysFrom_245 ⟨hcs.1, hcs.2⟩) (fun r_245 hq => ?_)
              have hq : r_245 = bI (mFit1 b g (nx) (st + 1) (e1) (fi)) := hq
              subst hq
              refine nr_ifb_eq (tgt := 268) hx hb (b := (mFit1 b g (nx) (st + 1) (e1) (fi))) dM_waysFrom_248 (by decide) (fun c_248 => ?_) (fun c_248 => ?_)
              · refine lv_iinc (v := nI (nx + 1)) (lv' := [(11, .int (nI (nx + 1))), (12, .int (nI (5 * (nx - (ev - 16))))), (6, .int (acc)), (7, .int (nI (e1))), (8, .int (nI (ed))), (9, .int (nI (st))), (10, .int (nn)), (0, .ref (r 0)), (1, .int (nI (fi))), (2, .int (e0)), (3, .int (s0)), (4, .int (bI (lt))), (5, .int (nI (ev - 16)))]) hx hb dM_waysFrom_268 hl (k := 1) rfl (nI_1 _) (by decide) rfl (fun ls hl => ?_)
                refine lv_goto (tgt := 164) hx hb dM_waysFrom_271 (by decide) ?_
                have hy : mN2 b g ev ms fi e1 st nn nx (mN1 b g ev fi e1 st nn nx y) = upd (y) ((5 * (nx - (ev - 16))) + st) (((y) ((5 * (nx - (ev - 16))) + st)) + (nn)) := by
                  first | rw [mN1, if_pos (Or.inl c_192)] | rw [mN1, if_pos (Or.inr c_206)] | rw [mN1, if_neg (fun h => h.elim c_192 (fun h => by rw [c_206] at h; cases h))]
                  first | rw [mN2, if_pos (Or.inl (by omega))] | rw [mN2, if_pos (Or.inr c_248)] | rw [mN2, if_neg (fun h => h.elim (fun h => by omega) (fun h => by rw [c_248] at h; cases h))]
                exact ih (k - 1) (by omega) (nx + 1) _ _ _ ls (by omega) (by omega) (by omega) (lv_sub hl [0, 2, 3, 4, 5, 6, 7, 8, 9, 10, 11, 12] rfl) hP hD hS (fun H locs ls hl hP hD hS => by rw [mWN_in (by omega) c_168 (Int32.not_le.mp c_173) hy] at kk; exact kk H locs ls hl hP hD hS)
              · refine lv_aload_n hx hb dM_waysFrom_251 rfl (lv_at hl 7 rfl) ?_
                refine va_get (D := (dC, dI)) (ci := 1) (v := .ref (r 8)) (C := "EventPatternsModel") (T := TM) (N := 16) hx hb hbw inM hown hK hP 0 rfl rfl 12 (by decide) (hbw _ kf_M_32) (fun _ h9 => h9) rfl dM_waysFrom_252 ?_
                refine lv_iload hx hb dM_waysFrom_255 (lv_at hl 0 rfl) ?_
                refine lv_iload hx hb dM_waysFrom_257 (lv_at hl 5 rfl) ?_
                refine nr_iadd hx hb (a1 := 5 * (nx - (ev - 16))) (b1 := st) dM_waysFrom_259 ?_
                refine lv_iconst (v := 1) hx hb dM_waysFrom_260 (by decide) ?_
                refine nr_iadd hx hb (a1 := (5 * (nx - (ev - 16))) + st) (b1 := 1) dM_waysFrom_261 ?_
                refine lv_dup2_11 hx hb dM_waysFrom_262 rfl rfl ?_
                refine nr_iald (f := upd (y) ((5 * (nx - (ev - 16))) + st) (((y) ((5 * (nx - (ev - 16))) + st)) + (nn))) hx hb hK hP 8 0 rfl rfl (j := ((5 * (nx - (ev - 16))) + st) + 1) (by omega) (by decide) dM_waysFrom_263 ?_
                refine lv_iload hx hb dM_waysFrom_264 (lv_at hl 6 rfl) ?_
                refine lv_iadd hx hb dM_waysFrom_266 ?_
                refine nr_iast (f := upd (y) ((5 * (nx - (ev - 16))) + st) (((y) ((5 * (nx - (ev - 16))) + st)) + (nn))) hx hb hK hP hD hS 8 0 rfl rfl (j := ((5 * (nx - (ev - 16))) + st) + 1) (by omega) (by decide) dM_waysFrom_267 (fun H locs hP hD hS => ?_)
                have hP : va_P (dC, dI) cls2 (mw r cI cZ (va_up b 7 (upd (upd (y) ((5 * (nx - (ev - 16))) + st) (((y) ((5 * (nx - (ev - 16))) + st)) + (nn))) (((5 * (nx - (ev - 16))) + st) + 1) (((upd (y) ((5 * (nx - (ev - 16))) + st) (((y) ((5 * (nx - (ev - 16))) + st)) + (nn))) (((5 * (nx - (ev - 16))) + st) + 1)) + (nn)))) (g)) H := hP
                have hD : va_D A (mw r cI cZ (va_up b 7 (upd (upd (y) ((5 * (nx - (ev - 16))) + st) (((y) ((5 * (nx - (ev - 16))) + st)) + (nn))) (((5 * (nx - (ev - 16))) + st) + 1) (((upd (y) ((5 * (nx - (ev - 16))) + st) (((y) ((5 * (nx - (ev - 16))) + st)) + (nn))) (((5 * (nx - (ev - 16))) + st) + 1)) + (nn)))) (g)) := hD
                refine lv_iinc (v := nI (nx + 1)) (lv' := [(11, .int (nI (nx + 1))), (12, .int (nI (5 * (nx - (ev - 16))))), (6, .int (acc)), (7, .int (nI (e1))), (8, .int (nI (ed))), (9, .int (nI (st))), (10, .int (nn)), (0, .ref (r 0)), (1, .int (nI (fi))), (2, .int (e0)), (3, .int (s0)), (4, .int (bI (lt))), (5, .int (nI (ev - 16)))]) hx hb dM_waysFrom_268 hl (k := 1) rfl (nI_1 _) (by decide) rfl (fun ls hl => ?_)
                refine lv_goto (tgt := 164) hx hb dM_waysFrom_271 (by decide) ?_
                have hy : mN2 b g ev ms fi e1 st nn nx (mN1 b g ev fi e1 st nn nx y) = upd (upd (y) ((5 * (nx - (ev - 16))) + st) (((y) ((5 * (nx - (ev - 16))) + st)) + (nn))) (((5 * (nx - (ev - 16))) + st) + 1) (((upd (y) ((5 * (nx - (ev - 16))) + st) (((y) ((5 * (nx - (ev - 16))) + st)) + (nn))) (((5 * (nx - (ev - 16))) + st) + 1)) + (nn)) := by
                  first | rw [mN1, if_pos (Or.inl c_192)] | rw [mN1, if_pos (Or.inr c_206)] | rw [mN1, if_neg (fun h => h.elim c_192 (fun h => by rw [c_206] at h; cases h))]
                  first | rw [mN2, if_pos (Or.inl (by omega))] | rw [mN2, if_pos (Or.inr c_248)] | rw [mN2, if_neg (fun h => h.elim (fun h => by omega) (fun h => by rw [c_248] at h; cases h))]
                exact ih (k - 1) (by omega) (nx + 1) _ _ _ ls (by omega) (by omega) (by omega) (lv_sub hl [0, 2, 3, 4, 5, 6, 7, 8, 9, 10, 11, 12] rfl) hP hD hS (fun H locs ls hl hP hD hS => by rw [mWN_in (by omega) c_168 (Int32.not_le.mp c_173) hy] at kk; exact kk H locs ls hl hP hD hS)
set_option maxHeartbeats 4000000 in
set_option maxRecDepth 100000 in
theorem lM_S (l : Launch) (dC : Nat → ClassId) (dI : Nat → Nat → Nat) (r : Nat → Nat) (cI cZ cG : ClassId) (b : Nat → Nat → Int32) (g : Nat → Int32) {p : Program} {e : Env} {s : State} {m : MethodId} {args : Array Value} {below : List Frame} {meth : Method} {c : Code} {Q : State → Prop} {A : Nat → Prop} (ev ms fi : Nat) (e0 s0 : Int32) (lt : Bool) (hev : ev ≤ 400) (hg1 : g 1 = nI ev) (h0 : 1 ≤ ms) (hm : ms ≤ 5) (hg4 : g 4 = nI ms) (hfi : fi < 400) {cells slots : Nat} (hcs : cells ≤ 0 ∧ slots ≤ 0) (hx : p.tables.exec = Jvm.exec) (hb : c.code = cM_waysFrom) (hml : c.maxLocals = 13) (hown : s.vm.findClass "EventPatternsModel" = some m.cls) (hbw : ∀ w ∈ bw, w.before args s = true) (hK : va_K (dC, dI) cls2 (xt cI cZ cG) s) (e1 ed : Nat) (he : e1 < ev) (he2 : ev - 16 ≤ e1) (hed : ed ≤ ev) :
    ∀ (k st : Nat) (acc : Int32) (y : Nat → Int32) (H : Heap) (locs : List Loc) (ls : Array Slot), ms ≤ st + k → st ≤ ms → lv_has ls 13 [(9, .int (nI (st))), (6, .int (acc)), (7, .int (nI (e1))), (8, .int (nI (ed))), (0, .ref (r 0)), (1, .int (nI (fi))), (2, .int (e0)), (3, .int (s0)), (4, .int (bI (lt))), (5, .int (nI (ev - 16)))] → va_P (dC, dI) cls2 (mw r cI cZ (va_up b 7 (y)) g) H → va_D A (mw r cI cZ (va_up b 7 (y)) g) → va_S A s.heap H locs →
      (∀ (H : Heap) (locs : List Loc) (ls : Array Slot), lv_has ls 13 [(6, .int ((mWS b g ev ms fi e1 ed lt (k + 1) st acc y).1)), (7, .int (nI (e1))), (8, .int (nI (ed))), (0, .ref (r 0)), (1, .int (nI (fi))), (2, .int (e0)), (3, .int (s0)), (4, .int (bI (lt))), (5, .int (nI (ev - 16)))] → va_P (dC, dI) cls2 (mw r cI cZ (va_up b 7 ((mWS b g ev ms fi e1 ed lt (k + 1) st acc y).2)) g) H → va_D A (mw r cI cZ (va_up b 7 ((mWS b g ev ms fi e1 ed lt (k + 1) st acc y).2)) g) → va_S A s.heap H locs → W p l e ({ frames := 1, cells := 0, slots := 0, locals := 25 }) s m args below meth c H locs cells slots Q (F0 m 280 ls [])) → W p l e ({ frames := 1, cells := 0, slots := 0, locals := 25 }) s m args below meth c H locs cells slots Q (F0 m 93 ls []) := by
  intro k
  induction k using Nat.strongRecOn with
  | ind k ih =>
    intro st acc y H locs ls hk hst hl hP hD hS kk
    refine lv_iload hx hb dM_waysFrom_93 (lv_at hl 0 rfl) ?_
    refine lv_aload_n hx hb dM_waysFrom_95 rfl (lv_at hl 4 rfl) ?_
    refine va_get (D := (dC, dI)) (ci := 1) (v := .int (nI (ms))) (C := "EventPatternsModel") (T := TM) (N := 16) hx hb hbw inM hown hK hP 0 rfl rfl 7 (by decide) (hbw _ kf_M_63) (fun _ h9 => h9) (congrArg (fun z => some (Value.int z)) (hg4)) dM_waysFrom_96 ?_
    refine nr_icmp_ge (tgt := 280) hx hb (a1 := st) (b1 := ms) (by omega) (by omega) dM_waysFrom_99 (by decide) (fun c_99 => ?_) (fun c_99 => ?_)
    · rw [mWS_out c_99] at kk
      exact kk H locs ls (lv_sub hl [1, 2, 3, 4, 5, 6, 7, 8, 9] rfl) hP hD hS
    · refine lv_aload_n hx hb dM_waysFrom_102 rfl (lv_at hl 4 rfl) ?_
      refine va_get (D := (dC, dI)) (ci := 1) (v := .ref (r 8)) (C := "EventPatternsModel") (T := TM) (N := 16) hx hb hbw inM hown hK hP 0 rfl rfl 12 (by decide) (hbw _ kf_M_32) (fun _ h9 => h9) rfl dM_waysFrom_103 ?_
      refine lv_iconst (v := 5) hx hb dM_waysFrom_106 (by decide) ?_
      refine lv_iload hx hb dM_waysFrom_107 (lv_at hl 2 rfl) ?_
      refine lv_iload hx hb dM_waysFrom_109 (lv_at hl 9 rfl) ?_
      refine nr_isub hx hb (a1 := e1) (b1 := ev - 16) (by omega) dM_waysFrom_111 ?_
      refine nr_imul hx hb (a1 := 5) (b1 := e1 - (ev - 16)) dM_waysFrom_112 ?_
      refine lv_iload hx hb dM_waysFrom_113 (lv_at hl 0 rfl) ?_
      refine nr_iadd hx hb (a1 := 5 * (e1 - (ev - 16))) (b1 := st) dM_waysFrom_115 ?_
      refine nr_iald (f := y) hx hb hK hP 8 0 rfl rfl (j := (5 * (e1 - (ev - 16))) + st) (by omega) (by decide) dM_waysFrom_116 ?_
      refine lv_istore (lv' := [(10, .int ((y) ((5 * (e1 - (ev - 16))) + st))), (9, .int (nI (st))), (6, .int (acc)), (7, .int (nI (e1))), (8, .int (nI (ed))), (0, .ref (r 0)), (1, .int (nI (fi))), (2, .int (e0)), (3, .int (s0)), (4, .int (bI (lt))), (5, .int (nI (ev - 16)))]) hx hb dM_waysFrom_117 hl (by decide) rfl (fun ls hl => ?_)
      refine lv_iload hx hb dM_waysFrom_119 (lv_at hl 1 rfl) ?_
      refine lv_aload_n hx hb dM_waysFrom_121 rfl (lv_at hl 5 rfl) ?_
      refine va_get (D := (dC, dI)) (ci := 1) (v := .int (nI (ms))) (C := "EventPatternsModel") (T := TM) (N := 16) hx hb hbw inM hown hK hP 0 rfl rfl 7 (by decide) (hbw _ kf_M_63) (fun _ h9 => h9) (congrArg (fun z => some (Value.int z)) (hg4)) dM_waysFrom_122 ?_
      refine lv_iconst (v := 1) hx hb dM_waysFrom_125 (by decide) ?_
      refine nr_isub hx hb (a1 := ms) (b1 := 1) (by omega) dM_waysFrom_126 ?_
      refine nr_icmp_ne (tgt := 154) hx hb (a1 := st) (b1 := ms - 1) (by omega) (by omega) dM_waysFrom_127 (by decide) (fun c_127 => ?_) (fun c_127 => ?_)
      · refine lv_iload hx hb dM_waysFrom_154 (lv_at hl 2 rfl) ?_
        refine lv_istore (lv' := [(6, .int (acc)), (10, .int ((y) ((5 * (e1 - (ev - 16))) + st))), (9, .int (nI (st))), (7, .int (nI (e1))), (8, .int (nI (ed))), (0, .ref (r 0)), (1, .int (nI (fi))), (2, .int (e0)), (3, .int (s0)), (4, .int (bI (lt))), (5, .int (nI (ev - 16)))]) hx hb dM_waysFrom_156 hl (by decide) rfl (fun ls hl => ?_)
        refine lv_iload hx hb dM_waysFrom_158 (lv_at hl 3 rfl) ?_
        refine lv_iconst (v := 1) hx hb dM_waysFrom_160 (by decide) ?_
        refine nr_iadd hx hb (a1 := e1) (b1 := 1) dM_waysFrom_161 ?_
        refine lv_istore (lv' := [(11, .int (nI (e1 + 1))), (6, .int (acc)), (10, .int ((y) ((5 * (e1 - (ev - 16))) + st))), (9, .int (nI (st))), (7, .int (nI (e1))), (8, .int (nI (ed))), (0, .ref (r 0)), (1, .int (nI (fi))), (2, .int (e0)), (3, .int (s0)), (4, .int (bI (lt))), (5, .int (nI (ev - 16)))]) hx hb dM_waysFrom_162 hl (by decide) rfl (fun ls hl => ?_)
        have hacc : mAcc ev ms e1 st lt acc (y (5 * (e1 - (ev - 16)) + st)) = acc := by unfold mAcc; first | exact if_pos ⟨by omega, Or.inr (by omega)⟩ | exact if_pos ⟨by omega, Or.inl (by assumption)⟩ | exact if_neg (fun u => by omega) | exact if_neg (by rintro ⟨u1, u2 | u2⟩ <;> first | omega | (rw [c_132] at u2; cases u2))
        refine lM_N l dC dI r cI cZ cG b g ev ms fi e0 s0 lt hev hg1 h0 hm hg4 hfi hcs hx hb hml hown hbw hK e1 st ed (acc) ((y) ((5 * (e1 - (ev - 16))) + st)) he he2 (by omega) hed ed (e1 + 1) y H locs ls (by omega) (by omega) (by omega) (lv_sub hl [0, 1, 4, 5, 3, 2, 6, 7, 8, 9, 10, 11] rfl) hP hD hS (fun H locs ls hl hP hD hS => ?_)
        rw [← hacc] at hl
        refine lv_iinc (v := nI (st + 1)) (lv' := [(9, .int (nI (st + 1))), (6, .int (mAcc ev ms e1 st lt acc (y (5 * (e1 - (ev - 16)) + st)))), (7, .int (nI (e1))), (8, .int (nI (ed))), (10, .int ((y) ((5 * (e1 - (ev - 16))) + st))), (0, .ref (r 0)), (1, .int (nI (fi))), (2, .int (e0)), (3, .int (s0)), (4, .int (bI (lt))), (5, .int (nI (ev - 16)))]) hx hb dM_waysFrom_274 hl (k := 3) rfl (nI_1 _) (by decide) rfl (fun ls hl => ?_)
        refine lv_goto (tgt := 93) hx hb dM_waysFrom_277 (by decide) ?_
        exact ih (k - 1) (by omega) (st + 1) _ _ _ _ ls (by omega) (by omega) (lv_sub hl [0, 1, 2, 3, 5, 6, 7, 8, 9, 10] rfl) hP hD hS (fun H locs ls hl hP hD hS => by rw [mWS_in (by omega) c_99] at kk; exact kk H locs ls hl hP hD hS)
      · refine lv_iload hx hb dM_waysFrom_130 (lv_at hl 9 rfl) ?_
        refine nr_ifb_eq (tgt := 146) hx hb (b := (lt)) dM_waysFrom_132 (by decide) (fun c_132 => ?_) (fun c_132 => ?_)
        · refine lv_iload hx hb dM_waysFrom_146 (lv_at hl 2 rfl) ?_
          refine lv_iload hx hb dM_waysFrom_148 (lv_at hl 0 rfl) ?_
          refine lv_iadd hx hb dM_waysFrom_150 ?_
          refine lv_goto (tgt := 156) hx hb dM_waysFrom_151 (by decide) ?_
          refine lv_istore (lv' := [(6, .int ((acc) + ((y) ((5 * (e1 - (ev - 16))) + st)))), (10, .int ((y) ((5 * (e1 - (ev - 16))) + st))), (9, .int (nI (st))), (7, .int (nI (e1))), (8, .int (nI (ed))), (0, .ref (r 0)), (1, .int (nI (fi))), (2, .int (e0)), (3, .int (s0)), (4, .int (bI (lt))), (5, .int (nI (ev - 16)))]) hx hb dM_waysFrom_156 hl (by decide) rfl (fun ls hl => ?_)
          refine lv_iload hx hb dM_waysFrom_158 (lv_at hl 3 rfl) ?_
          refine lv_iconst (v := 1) hx hb dM_waysFrom_160 (by decide) ?_
          refine nr_iadd hx hb (a1 := e1) (b1 := 1) dM_waysFrom_161 ?_
          refine lv_istore (lv' := [(11, .int (nI (e1 + 1))), (6, .int ((acc) + ((y) ((5 * (e1 - (ev - 16))) + st)))), (10, .int ((y) ((5 * (e1 - (ev - 16))) + st))), (9, .int (nI (st))), (7, .int (nI (e1))), (8, .int (nI (ed))), (0, .ref (r 0)), (1, .int (nI (fi))), (2, .int (e0)), (3, .int (s0)), (4, .int (bI (lt))), (5, .int (nI (ev - 16)))]) hx hb dM_waysFrom_162 hl (by decide) rfl (fun ls hl => ?_)
          have hacc : mAcc ev ms e1 st lt acc (y (5 * (e1 - (ev - 16)) + st)) = (acc) + ((y) ((5 * (e1 - (ev - 16))) + st)) := by unfold mAcc; first | exact if_pos ⟨by omega, Or.inr (by omega)⟩ | exact if_pos ⟨by omega, Or.inl (by assumption)⟩ | exact if_neg (fun u => by omega) | exact if_neg (by rintro ⟨u1, u2 | u2⟩ <;> first | omega | (rw [c_132] at u2; cases u2))
          refine lM_N l dC dI r cI cZ cG b g ev ms fi e0 s0 lt hev hg1 h0 hm hg4 hfi hcs hx hb hml hown hbw hK e1 st ed ((acc) + ((y) ((5 * (e1 - (ev - 16))) + st))) ((y) ((5 * (e1 - (ev - 16))) + st)) he he2 (by omega) hed ed (e1 + 1) y H locs ls (by omega) (by omega) (by omega) (lv_sub hl [0, 1, 4, 5, 3, 2, 6, 7, 8, 9, 10, 11] rfl) hP hD hS (fun H locs ls hl hP hD hS => ?_)
          rw [← hacc] at hl
          refine lv_iinc (v := nI (st + 1)) (lv' := [(9, .int (nI (st + 1))), (6, .int (mAcc ev ms e1 st lt acc (y (5 * (e1 - (ev - 16)) + st)))), (7, .int (nI (e1))), (8, .int (nI (ed))), (10, .int ((y) ((5 * (e1 - (ev - 16))) + st))), (0, .ref (r 0)), (1, .int (nI (fi))), (2, .int (e0)), (3, .int (s0)), (4, .int (bI (lt))), (5, .int (nI (ev - 16)))]) hx hb dM_waysFrom_274 hl (k := 3) rfl (nI_1 _) (by decide) rfl (fun ls hl => ?_)
          refine lv_goto (tgt := 93) hx hb dM_waysFrom_277 (by decide) ?_
          exact ih (k - 1) (by omega) (st + 1) _ _ _ _ ls (by omega) (by omega) (lv_sub hl [0, 1, 2, 3, 5, 6, 7, 8, 9, 10] rfl) hP hD hS (fun H locs ls hl hP hD hS => by rw [mWS_in (by omega) c_99] at kk; exact kk H locs ls hl hP hD hS)
        · refine lv_iload hx hb dM_waysFrom_135 (lv_at hl 3 rfl) ?_
          refine lv_aload_n hx hb dM_waysFrom_137 rfl (lv_at hl 5 rfl) ?_
          refine va_get (D := (dC, dI)) (ci := 1) (v := .int (nI (ev))) (C := "EventPatternsModel") (T := TM) (N := 16) hx hb hbw inM hown hK hP 0 rfl rfl 1 (by decide) (hbw _ kf_M_45) (fun _ h9 => h9) (congrArg (fun z => some (Value.int z)) (hg1)) dM_waysFrom_138 ?_
          refine lv_iconst (v := 1) hx hb dM_waysFrom_141 (by decide) ?_
          refine nr_isub hx hb (a1 := ev) (b1 := 1) (by omega) dM_waysFrom_142 ?_
          refine nr_icmp_ne (tgt := 154) hx hb (a1 := e1) (b1 := ev - 1) (by omega) (by omega) dM_waysFrom_143 (by decide) (fun c_143 => ?_) (fun c_143 => ?_)
          · refine lv_iload hx hb dM_waysFrom_154 (lv_at hl 2 rfl) ?_
            refine lv_istore (lv' := [(6, .int (acc)), (10, .int ((y) ((5 * (e1 - (ev - 16))) + st))), (9, .int (nI (st))), (7, .int (nI (e1))), (8, .int (nI (ed))), (0, .ref (r 0)), (1, .int (nI (fi))), (2, .int (e0)), (3, .int (s0)), (4, .int (bI (lt))), (5, .int (nI (ev - 16)))]) hx hb dM_waysFrom_156 hl (by decide) rfl (fun ls hl => ?_)
            refine lv_iload hx hb dM_waysFrom_158 (lv_at hl 3 rfl) ?_
            refine lv_iconst (v := 1) hx hb dM_waysFrom_160 (by decide) ?_
            refine nr_iadd hx hb (a1 := e1) (b1 := 1) dM_waysFrom_161 ?_
            refine lv_istore (lv' := [(11, .int (nI (e1 + 1))), (6, .int (acc)), (10, .int ((y) ((5 * (e1 - (ev - 16))) + st))), (9, .int (nI (st))), (7, .int (nI (e1))), (8, .int (nI (ed))), (0, .ref (r 0)), (1, .int (nI (fi))), (2, .int (e0)), (3, .int (s0)), (4, .int (bI (lt))), (5, .int (nI (ev - 16)))]) hx hb dM_waysFrom_162 hl (by decide) rfl (fun ls hl => ?_)
            have hacc : mAcc ev ms e1 st lt acc (y (5 * (e1 - (ev - 16)) + st)) = acc := by unfold mAcc; first | exact if_pos ⟨by omega, Or.inr (by omega)⟩ | exact if_pos ⟨by omega, Or.inl (by assumption)⟩ | exact if_neg (fun u => by omega) | exact if_neg (by rintro ⟨u1, u2 | u2⟩ <;> first | omega | (rw [c_132] at u2; cases u2))
            refine lM_N l dC dI r cI cZ cG b g ev ms fi e0 s0 lt hev hg1 h0 hm hg4 hfi hcs hx hb hml hown hbw hK e1 st ed (acc) ((y) ((5 * (e1 - (ev - 16))) + st)) he he2 (by omega) hed ed (e1 + 1) y H locs ls (by omega) (by omega) (by omega) (lv_sub hl [0, 1, 4, 5, 3, 2, 6, 7, 8, 9, 10, 11] rfl) hP hD hS (fun H locs ls hl hP hD hS => ?_)
            rw [← hacc] at hl
            refine lv_iinc (v := nI (st + 1)) (lv' := [(9, .int (nI (st + 1))), (6, .int (mAcc ev ms e1 st lt acc (y (5 * (e1 - (ev - 16)) + st)))), (7, .int (nI (e1))), (8, .int (nI (ed))), (10, .int ((y) ((5 * (e1 - (ev - 16))) + st))), (0, .ref (r 0)), (1, .int (nI (fi))), (2, .int (e0)), (3, .int (s0)), (4, .int (bI (lt))), (5, .int (nI (ev - 16)))]) hx hb dM_waysFrom_274 hl (k := 3) rfl (nI_1 _) (by decide) rfl (fun ls hl => ?_)
            refine lv_goto (tgt := 93) hx hb dM_waysFrom_277 (by decide) ?_
            exact ih (k - 1) (by omega) (st + 1) _ _ _ _ ls (by omega) (by omega) (lv_sub hl [0, 1, 2, 3, 5, 6, 7, 8, 9, 10] rfl) hP hD hS (fun H locs ls hl hP hD hS => by rw [mWS_in (by omega) c_99] at kk; exact kk H locs ls hl hP hD hS)
          · refine lv_iload hx hb dM_waysFrom_146 (lv_at hl 2 rfl) ?_
            refine lv_iload hx hb dM_waysFrom_148 (lv_at hl 0 rfl) ?_
            refine lv_iadd hx hb dM_waysFrom_150 ?_
            refine lv_goto (tgt := 156) hx hb dM_waysFrom_151 (by decide) ?_
            refine lv_istore (lv' := [(6, .int ((acc) + ((y) ((5 * (e1 - (ev - 16))) + st)))), (10, .int ((y) ((5 * (e1 - (ev - 16))) + st))), (9, .int (nI (st))), (7, .int (nI (e1))), (8, .int (nI (ed))), (0, .ref (r 0)), (1, .int (nI (fi))), (2, .int (e0)), (3, .int (s0)), (4, .int (bI (lt))), (5, .int (nI (ev - 16)))]) hx hb dM_waysFrom_156 hl (by decide) rfl (fun ls hl => ?_)
            refine lv_iload hx hb dM_waysFrom_158 (lv_at hl 3 rfl) ?_
            refine lv_iconst (v := 1) hx hb dM_waysFrom_160 (by decide) ?_
            refine nr_iadd hx hb (a1 := e1) (b1 := 1) dM_waysFrom_161 ?_
            refine lv_istore (lv' := [(11, .int (nI (e1 + 1))), (6, .int ((acc) + ((y) ((5 * (e1 - (ev - 16))) + st)))), (10, .int ((y) ((5 * (e1 - (ev - 16))) + st))), (9, .int (nI (st))), (7, .int (nI (e1))), (8, .int (nI (ed))), (0, .ref (r 0)), (1, .int (nI (fi))), (2, .int (e0)), (3, .int (s0)), (4, .int (bI (lt))), (5, .int (nI (ev - 16)))]) hx hb dM_waysFrom_162 hl (by decide) rfl (fun ls hl => ?_)
            have hacc : mAcc ev ms e1 st lt acc (y (5 * (e1 - (ev - 16)) + st)) = (acc) + ((y) ((5 * (e1 - (ev - 16))) + st)) := by unfold mAcc; first | exact if_pos ⟨by omega, Or.inr (by omega)⟩ | exact if_pos ⟨by omega, Or.inl (by assumption)⟩ | exact if_neg (fun u => by omega) | exact if_neg (by rintro ⟨u1, u2 | u2⟩ <;> first | omega | (rw [c_132] at u2; cases u2))
            refine lM_N l dC dI r cI cZ cG b g ev ms fi e0 s0 lt hev hg1 h0 hm hg4 hfi hcs hx hb hml hown hbw hK e1 st ed ((acc) + ((y) ((5 * (e1 - (ev - 16))) + st))) ((y) ((5 * (e1 - (ev - 16))) + st)) he he2 (by omega) hed ed (e1 + 1) y H locs ls (by omega) (by omega) (by omega) (lv_sub hl [0, 1, 4, 5, 3, 2, 6, 7, 8, 9, 10, 11] rfl) hP hD hS (fun H locs ls hl hP hD hS => ?_)
            rw [← hacc] at hl
            refine lv_iinc (v := nI (st + 1)) (lv' := [(9, .int (nI (st + 1))), (6, .int (mAcc ev ms e1 st lt acc (y (5 * (e1 - (ev - 16)) + st)))), (7, .int (nI (e1))), (8, .int (nI (ed))), (10, .int ((y) ((5 * (e1 - (ev - 16))) + st))), (0, .ref (r 0)), (1, .int (nI (fi))), (2, .int (e0)), (3, .int (s0)), (4, .int (bI (lt))), (5, .int (nI (ev - 16)))]) hx hb dM_waysFrom_274 hl (k := 3) rfl (nI_1 _) (by decide) rfl (fun ls hl => ?_)
            refine lv_goto (tgt := 93) hx hb dM_waysFrom_277 (by decide) ?_
            exact ih (k - 1) (by omega) (st + 1) _ _ _ _ ls (by omega) (by omega) (lv_sub hl [0, 1, 2, 3, 5, 6, 7, 8, 9, 10] rfl) hP hD hS (fun H locs ls hl hP hD hS => by rw [mWS_in (by omega) c_99] at kk; exact kk H locs ls hl hP hD hS)
set_option maxHeartbeats 4000000 in
set_option maxRecDepth 100000 in
theorem lM_E (l : Launch) (dC : Nat → ClassId) (dI : Nat → Nat → Nat) (r : Nat → Nat) (cI cZ cG : ClassId) (b : Nat → Nat → Int32) (g : Nat → Int32) {p : Program} {e : Env} {s : State} {m : MethodId} {args : Array Value} {below : List Frame} {meth : Method} {c : Code} {Q : State → Prop} {A : Nat → Prop} (ev ms fi : Nat) (e0 s0 : Int32) (lt : Bool) (hev : ev ≤ 400) (hg1 : g 1 = nI ev) (h0 : 1 ≤ ms) (hm : ms ≤ 5) (hg4 : g 4 = nI ms) (hfi : fi < 400) {cells slots : Nat} (hcs : cells ≤ 0 ∧ slots ≤ 0) (hx : p.tables.exec = Jvm.exec) (hb : c.code = cM_waysFrom) (hml : c.maxLocals = 13) (hown : s.vm.findClass "EventPatternsModel" = some m.cls) (hbw : ∀ w ∈ bw, w.before args s = true) (hK : va_K (dC, dI) cls2 (xt cI cZ cG) s) :
    ∀ (k e1 : Nat) (acc : Int32) (y : Nat → Int32) (H : Heap) (locs : List Loc) (ls : Array Slot), ev ≤ e1 + k → ev - 16 ≤ e1 → e1 ≤ ev → lv_has ls 13 [(7, .int (nI (e1))), (6, .int (acc)), (0, .ref (r 0)), (1, .int (nI (fi))), (2, .int (e0)), (3, .int (s0)), (4, .int (bI (lt))), (5, .int (nI (ev - 16)))] → va_P (dC, dI) cls2 (mw r cI cZ (va_up b 7 (y)) g) H → va_D A (mw r cI cZ (va_up b 7 (y)) g) → va_S A s.heap H locs →
      (∀ (H : Heap) (locs : List Loc) (ls : Array Slot), lv_has ls 13 [(6, .int (mWE b g ev ms fi lt (k + 1) e1 acc y).1)] → va_P (dC, dI) cls2 (mw r cI cZ (va_up b 7 ((mWE b g ev ms fi lt (k + 1) e1 acc y).2)) g) H → va_D A (mw r cI cZ (va_up b 7 ((mWE b g ev ms fi lt (k + 1) e1 acc y).2)) g) → va_S A s.heap H locs → W p l e ({ frames := 1, cells := 0, slots := 0, locals := 25 }) s m args below meth c H locs cells slots Q (F0 m 286 ls [])) → W p l e ({ frames := 1, cells := 0, slots := 0, locals := 25 }) s m args below meth c H locs cells slots Q (F0 m 50 ls []) := by
  intro k
  induction k using Nat.strongRecOn with
  | ind k ih =>
    intro e1 acc y H locs ls hk he0 he1 hl hP hD hS kk
    refine lv_iload hx hb dM_waysFrom_50 (lv_at hl 0 rfl) ?_
    refine lv_aload_n hx hb dM_waysFrom_52 rfl (lv_at hl 2 rfl) ?_
    refine va_get (D := (dC, dI)) (ci := 1) (v := .int (nI (ev))) (C := "EventPatternsModel") (T := TM) (N := 16) hx hb hbw inM hown hK hP 0 rfl rfl 1 (by decide) (hbw _ kf_M_45) (fun _ h9 => h9) (congrArg (fun z => some (Value.int z)) (hg1)) dM_waysFrom_53 ?_
    refine nr_icmp_ge (tgt := 286) hx hb (a1 := e1) (b1 := ev) (by omega) (by omega) dM_waysFrom_56 (by decide) (fun c_56 => ?_) (fun c_56 => ?_)
    · rw [mWE_out c_56] at kk
      exact kk H locs ls (lv_sub hl [1] rfl) hP hD hS
    · refine lv_aload_n hx hb dM_waysFrom_59 rfl (lv_at hl 2 rfl) ?_
      refine va_get (D := (dC, dI)) (ci := 1) (v := .int (g 2)) (C := "EventPatternsModel") (T := TM) (N := 16) hx hb hbw inM hown hK hP 0 rfl rfl 5 (by decide) (hbw _ kf_M_57) (fun _ h9 => h9) rfl dM_waysFrom_60 ?_
      refine lv_if_ne (tgt := 84) hx hb dM_waysFrom_63 (by decide) (fun c_63 => ?_) (fun c_63 => ?_)
      · refine lv_aload_n hx hb dM_waysFrom_84 rfl (lv_at hl 2 rfl) ?_
        refine va_get (D := (dC, dI)) (ci := 1) (v := .int (nI (ev))) (C := "EventPatternsModel") (T := TM) (N := 16) hx hb hbw inM hown hK hP 0 rfl rfl 1 (by decide) (hbw _ kf_M_45) (fun _ h9 => h9) (congrArg (fun z => some (Value.int z)) (hg1)) dM_waysFrom_85 ?_
        refine lv_istore (lv' := [(8, .int (nI (ev))), (7, .int (nI (e1))), (6, .int (acc)), (0, .ref (r 0)), (1, .int (nI (fi))), (2, .int (e0)), (3, .int (s0)), (4, .int (bI (lt))), (5, .int (nI (ev - 16)))]) hx hb dM_waysFrom_88 hl (by decide) rfl (fun ls hl => ?_)
        refine lv_iconst (v := 0) hx hb dM_waysFrom_90 (by decide) ?_
        refine lv_istore (lv' := [(9, .int (0)), (8, .int (nI (ev))), (7, .int (nI (e1))), (6, .int (acc)), (0, .ref (r 0)), (1, .int (nI (fi))), (2, .int (e0)), (3, .int (s0)), (4, .int (bI (lt))), (5, .int (nI (ev - 16)))]) hx hb dM_waysFrom_91 hl (by decide) rfl (fun ls hl => ?_)
        have hed : mEnd g ev e1 = ev := by unfold mEnd; first | exact if_pos ⟨c_63, by omega⟩ | exact if_neg (fun h => c_63 h.1) | exact if_neg (by omega)
        refine lM_S l dC dI r cI cZ cG b g ev ms fi e0 s0 lt hev hg1 h0 hm hg4 hfi hcs hx hb hml hown hbw hK e1 (ev) c_56 he0 (by omega) ms 0 acc y H locs ls (by omega) (by omega) (lv_sub hl [0, 3, 2, 1, 4, 5, 6, 7, 8, 9] rfl) hP hD hS (fun H locs ls hl hP hD hS => ?_)
        refine lv_iinc (v := nI (e1 + 1)) (lv' := [(7, .int (nI (e1 + 1))), (6, .int ((mWS b g ev ms fi e1 (ev) lt (ms + 1) 0 acc y).1)), (8, .int (nI (ev))), (0, .ref (r 0)), (1, .int (nI (fi))), (2, .int (e0)), (3, .int (s0)), (4, .int (bI (lt))), (5, .int (nI (ev - 16)))]) hx hb dM_waysFrom_280 hl (k := 1) rfl (nI_1 _) (by decide) rfl (fun ls hl => ?_)
        refine lv_goto (tgt := 50) hx hb dM_waysFrom_283 (by decide) ?_
        exact ih (k - 1) (by omega) (e1 + 1) _ _ _ _ ls (by omega) (by omega) (by omega) (lv_sub hl [0, 1, 3, 4, 5, 6, 7, 8] rfl) hP hD hS (fun H locs ls hl hP hD hS => by rw [mWE_in (by omega) c_56 hed] at kk; exact kk H locs ls hl hP hD hS)
      · refine lv_iload hx hb dM_waysFrom_66 (lv_at hl 0 rfl) ?_
        refine lv_iconst (v := 2) hx hb dM_waysFrom_68 (by decide) ?_
        refine nr_iadd hx hb (a1 := e1) (b1 := 2) dM_waysFrom_69 ?_
        refine lv_aload_n hx hb dM_waysFrom_70 rfl (lv_at hl 2 rfl) ?_
        refine va_get (D := (dC, dI)) (ci := 1) (v := .int (nI (ev))) (C := "EventPatternsModel") (T := TM) (N := 16) hx hb hbw inM hown hK hP 0 rfl rfl 1 (by decide) (hbw _ kf_M_45) (fun _ h9 => h9) (congrArg (fun z => some (Value.int z)) (hg1)) dM_waysFrom_71 ?_
        refine nr_icmp_ge (tgt := 84) hx hb (a1 := e1 + 2) (b1 := ev) (by omega) (by omega) dM_waysFrom_74 (by decide) (fun c_74 => ?_) (fun c_74 => ?_)
        · refine lv_aload_n hx hb dM_waysFrom_84 rfl (lv_at hl 2 rfl) ?_
          refine va_get (D := (dC, dI)) (ci := 1) (v := .int (nI (ev))) (C := "EventPatternsModel") (T := TM) (N := 16) hx hb hbw inM hown hK hP 0 rfl rfl 1 (by decide) (hbw _ kf_M_45) (fun _ h9 => h9) (congrArg (fun z => some (Value.int z)) (hg1)) dM_waysFrom_85 ?_
          refine lv_istore (lv' := [(8, .int (nI (ev))), (7, .int (nI (e1))), (6, .int (acc)), (0, .ref (r 0)), (1, .int (nI (fi))), (2, .int (e0)), (3, .int (s0)), (4, .int (bI (lt))), (5, .int (nI (ev - 16)))]) hx hb dM_waysFrom_88 hl (by decide) rfl (fun ls hl => ?_)
          refine lv_iconst (v := 0) hx hb dM_waysFrom_90 (by decide) ?_
          refine lv_istore (lv' := [(9, .int (0)), (8, .int (nI (ev))), (7, .int (nI (e1))), (6, .int (acc)), (0, .ref (r 0)), (1, .int (nI (fi))), (2, .int (e0)), (3, .int (s0)), (4, .int (bI (lt))), (5, .int (nI (ev - 16)))]) hx hb dM_waysFrom_91 hl (by decide) rfl (fun ls hl => ?_)
          have hed : mEnd g ev e1 = ev := by unfold mEnd; first | exact if_pos ⟨c_63, by omega⟩ | exact if_neg (fun h => c_63 h.1) | exact if_neg (by omega)
          refine lM_S l dC dI r cI cZ cG b g ev ms fi e0 s0 lt hev hg1 h0 hm hg4 hfi hcs hx hb hml hown hbw hK e1 (ev) c_56 he0 (by omega) ms 0 acc y H locs ls (by omega) (by omega) (lv_sub hl [0, 3, 2, 1, 4, 5, 6, 7, 8, 9] rfl) hP hD hS (fun H locs ls hl hP hD hS => ?_)
          refine lv_iinc (v := nI (e1 + 1)) (lv' := [(7, .int (nI (e1 + 1))), (6, .int ((mWS b g ev ms fi e1 (ev) lt (ms + 1) 0 acc y).1)), (8, .int (nI (ev))), (0, .ref (r 0)), (1, .int (nI (fi))), (2, .int (e0)), (3, .int (s0)), (4, .int (bI (lt))), (5, .int (nI (ev - 16)))]) hx hb dM_waysFrom_280 hl (k := 1) rfl (nI_1 _) (by decide) rfl (fun ls hl => ?_)
          refine lv_goto (tgt := 50) hx hb dM_waysFrom_283 (by decide) ?_
          exact ih (k - 1) (by omega) (e1 + 1) _ _ _ _ ls (by omega) (by omega) (by omega) (lv_sub hl [0, 1, 3, 4, 5, 6, 7, 8] rfl) hP hD hS (fun H locs ls hl hP hD hS => by rw [mWE_in (by omega) c_56 hed] at kk; exact kk H locs ls hl hP hD hS)
        · refine lv_iload hx hb dM_waysFrom_77 (lv_at hl 0 rfl) ?_
          refine lv_iconst (v := 2) hx hb dM_waysFrom_79 (by decide) ?_
          refine nr_iadd hx hb (a1 := e1) (b1 := 2) dM_waysFrom_80 ?_
          refine lv_goto (tgt := 88) hx hb dM_waysFrom_81 (by decide) ?_
          refine lv_istore (lv' := [(8, .int (nI (e1 + 2))), (7, .int (nI (e1))), (6, .int (acc)), (0, .ref (r 0)), (1, .int (nI (fi))), (2, .int (e0)), (3, .int (s0)), (4, .int (bI (lt))), (5, .int (nI (ev - 16)))]) hx hb dM_waysFrom_88 hl (by decide) rfl (fun ls hl => ?_)
          refine lv_iconst (v := 0) hx hb dM_waysFrom_90 (by decide) ?_
          refine lv_istore (lv' := [(9, .int (0)), (8, .int (nI (e1 + 2))), (7, .int (nI (e1))), (6, .int (acc)), (0, .ref (r 0)), (1, .int (nI (fi))), (2, .int (e0)), (3, .int (s0)), (4, .int (bI (lt))), (5, .int (nI (ev - 16)))]) hx hb dM_waysFrom_91 hl (by decide) rfl (fun ls hl => ?_)
          have hed : mEnd g ev e1 = e1 + 2 := by unfold mEnd; first | exact if_pos ⟨c_63, by omega⟩ | exact if_neg (fun h => c_63 h.1) | exact if_neg (by omega)
          refine lM_S l dC dI r cI cZ cG b g ev ms fi e0 s0 lt hev hg1 h0 hm hg4 hfi hcs hx hb hml hown hbw hK e1 (e1 + 2) c_56 he0 (by omega) ms 0 acc y H locs ls (by omega) (by omega) (lv_sub hl [0, 3, 2, 1, 4, 5, 6, 7, 8, 9] rfl) hP hD hS (fun H locs ls hl hP hD hS => ?_)
          refine lv_iinc (v := nI (e1 + 1)) (lv' := [(7, .int (nI (e1 + 1))), (6, .int ((mWS b g ev ms fi e1 (e1 + 2) lt (ms + 1) 0 acc y).1)), (8, .int (nI (e1 + 2))), (0, .ref (r 0)), (1, .int (nI (fi))), (2, .int (e0)), (3, .int (s0)), (4, .int (bI (lt))), (5, .int (nI (ev - 16)))]) hx hb dM_waysFrom_280 hl (k := 1) rfl (nI_1 _) (by decide) rfl (fun ls hl => ?_)
          refine lv_goto (tgt := 50) hx hb dM_waysFrom_283 (by decide) ?_
          exact ih (k - 1) (by omega) (e1 + 1) _ _ _ _ ls (by omega) (by omega) (by omega) (lv_sub hl [0, 1, 3, 4, 5, 6, 7, 8] rfl) hP hD hS (fun H locs ls hl hP hD hS => by rw [mWE_in (by omega) c_56 hed] at kk; exact kk H locs ls hl hP hD hS)
set_option maxHeartbeats 4000000 in
set_option maxRecDepth 100000 in
theorem lM_Z (l : Launch) (dC : Nat → ClassId) (dI : Nat → Nat → Nat) (r : Nat → Nat) (cI cZ cG : ClassId) (b : Nat → Nat → Int32) (g : Nat → Int32) {p : Program} {e : Env} {s : State} {m : MethodId} {args : Array Value} {below : List Frame} {meth : Method} {c : Code} {Q : State → Prop} {A : Nat → Prop} (v1 v2 v3 v4 v5 : Int32) {cells slots : Nat} (hx : p.tables.exec = Jvm.exec) (hb : c.code = cM_waysFrom) (hml : c.maxLocals = 13) (hown : s.vm.findClass "EventPatternsModel" = some m.cls) (hbw : ∀ w ∈ bw, w.before args s = true) (hK : va_K (dC, dI) cls2 (xt cI cZ cG) s) :
    ∀ (k i : Nat) (y : Nat → Int32) (H : Heap) (locs : List Loc) (ls : Array Slot), 80 ≤ i + k → i ≤ 80 → (∀ j, j < i → y j = 0) → lv_has ls 13 [(6, .int (nI i)), (0, .ref (r 0)), (1, .int v1), (2, .int v2), (3, .int v3), (4, .int v4), (5, .int v5)] → va_P (dC, dI) cls2 (mw r cI cZ (va_up b 7 (y)) g) H → va_D A (mw r cI cZ (va_up b 7 (y)) g) → va_S A s.heap H locs →
      (∀ (y : Nat → Int32) (H : Heap) (locs : List Loc) (ls : Array Slot), (∀ j, j < 80 → y j = 0) → lv_has ls 13 [(0, .ref (r 0)), (1, .int v1), (2, .int v2), (3, .int v3), (4, .int v4), (5, .int v5)] → va_P (dC, dI) cls2 (mw r cI cZ (va_up b 7 (y)) g) H → va_D A (mw r cI cZ (va_up b 7 (y)) g) → va_S A s.heap H locs → W p l e ({ frames := 1, cells := 0, slots := 0, locals := 25 }) s m args below meth c H locs cells slots Q (F0 m 30 ls [])) → W p l e ({ frames := 1, cells := 0, slots := 0, locals := 25 }) s m args below meth c H locs cells slots Q (F0 m 9 ls []) := by
  intro k
  induction k using Nat.strongRecOn with
  | ind k ih =>
    intro i y H locs ls hk hi hy hl hP hD hS kk
    refine lv_iload hx hb dM_waysFrom_9 (lv_at hl 0 rfl) ?_
    refine lv_bipush (v := 80) hx hb dM_waysFrom_11 (by decide) ?_
    refine nr_icmp_ge (tgt := 30) hx hb (a1 := i) (b1 := 80) (by omega) (by omega) dM_waysFrom_13 (by decide) (fun c_13 => ?_) (fun c_13 => ?_)
    · exact kk y H locs ls (fun j hj => hy j (by omega)) (lv_sub hl [1, 2, 3, 4, 5, 6] rfl) hP hD hS
    · refine lv_aload_n hx hb dM_waysFrom_16 rfl (lv_at hl 1 rfl) ?_
      refine va_get (D := (dC, dI)) (ci := 1) (v := .ref (r 8)) (C := "EventPatternsModel") (T := TM) (N := 16) hx hb hbw inM hown hK hP 0 rfl rfl 12 (by decide) (hbw _ kf_M_32) (fun _ h9 => h9) rfl dM_waysFrom_17 ?_
      refine lv_iload hx hb dM_waysFrom_20 (lv_at hl 0 rfl) ?_
      refine lv_iconst (v := 0) hx hb dM_waysFrom_22 (by decide) ?_
      refine nr_iast (f := y) hx hb hK hP hD hS 8 0 rfl rfl (j := i) (by omega) (by decide) dM_waysFrom_23 (fun H locs hP hD hS => ?_)
      have hP : va_P (dC, dI) cls2 (mw r cI cZ (va_up b 7 (upd (y) (i) (0))) (g)) H := hP
      have hD : va_D A (mw r cI cZ (va_up b 7 (upd (y) (i) (0))) (g)) := hD
      refine lv_iinc (v := nI (i + 1)) (lv' := [(6, .int (nI (i + 1))), (0, .ref (r 0)), (1, .int (v1)), (2, .int (v2)), (3, .int (v3)), (4, .int (v4)), (5, .int (v5))]) hx hb dM_waysFrom_24 hl (k := 0) rfl (nI_1 _) (by decide) rfl (fun ls hl => ?_)
      refine lv_goto (tgt := 9) hx hb dM_waysFrom_27 (by decide) ?_
      exact ih (k - 1) (by omega) (i + 1) _ _ _ ls (by omega) (by omega) (fun j hj => by by_cases h9 : j = i; (subst h9; exact pk_us); exact (pk_un h9).trans (hy j (by omega))) (lv_sub hl [0, 1, 2, 3, 4, 5, 6] rfl) hP hD hS kk
set_option maxHeartbeats 4000000 in
set_option maxRecDepth 100000 in
/-- waysFrom(first, e0, s0, latest) -/
theorem tM_waysFrom (l : Launch) (dC : Nat → ClassId) (dI : Nat → Nat → Nat) (r : Nat → Nat) (cI cZ cG : ClassId) (b : Nat → Nat → Int32) (g : Nat → Int32) (sz : Nat) (ev ms fi e0 s0 : Nat) (lt : Bool) (hev : ev ≤ 400) (hg1 : g 1 = nI ev) (h0 : 1 ≤ ms) (hm : ms ≤ 5) (hg4 : g 4 = nI ms) (hfi : fi < 400) (he0 : e0 < ev) (he1 : ev - 16 ≤ e0) (hs0 : s0 < ms) : Met l yM_waysFrom wM_waysFrom ({ frames := 1, cells := 0, slots := 0, locals := 25 }) (va_Pc [.ref (r 0), .int (nI (fi)), .int (nI (e0)), .int (nI (s0)), .int (bI (lt))] (fun U => U.heap.size = sz ∧ va_P (dC, dI) cls2 (mw r cI cZ b g) U.heap ∧ va_K (dC, dI) cls2 (xt cI cZ cG) U ∧ va_D (fun _ => True) (mw r cI cZ b g))) (va_Qi (fun (r0 : Int32) (u : MS) => ∃ y y2 : Nat → Int32, (∀ j, j < 80 → y j = 0) ∧ r0 = (mWE b g ev ms fi lt (ev + 1) e0 0 (upd y (5 * (e0 - (ev - 16)) + s0) 1)).1 ∧ u = (va_up b 7 y2, g)) (atM dC dI r cI cZ cG (va_A (mw r cI cZ b g) sz)) (va_A (mw r cI cZ b g) sz)) 0 0 (va_A (mw r cI cZ b g) sz) := by
  refine Met.ofW (cc := cM_waysFrom) (maxL := 13) (ret := (some .int)) (by decide) rfl ?_
  intro p e s m args below meth c s₁ B hml hv
  obtain ⟨rfl, hsz, hP, hK, hD0⟩ := hv
  have hx := B.exec
  have hb := B.bytes
  have hr := B.returns
  have hbw : ∀ w ∈ bw, w.before _ s = true := fun w h => atoms_spec (ws := wM_waysFrom) B.pre w (List.mem_cons_of_mem _ h)
  have hown : s.vm.findClass "EventPatternsModel" = some m.cls := findClass_of_methodNamed B.named
  have hlocks := B.notSynchronized
  subst hsz
  have hD := hD0.self (sz := s.heap.size)
  generalize hAe : va_A (mw r cI cZ b g) s.heap.size = A at hD ⊢
  have hA : ∀ q : Nat, s.heap.size ≤ q → A q := fun q h => by rw [← hAe]; exact Or.inr h
  have hS : va_S A s.heap s.heap [] := va_S.rf
  have hl := lv_entry ([.ref (r 0), .int (nI (fi)), .int (nI (e0)), .int (nI (s0)), .int (bI (lt))]) (n := 13) (Nat.le_of_ble_eq_true rfl)
  rw [lg_entry_eq]
  generalize (lg_sl ([.ref (r 0), .int (nI (fi)), .int (nI (e0)), .int (nI (s0)), .int (bI (lt))]) ++ List.replicate (13 - (lg_sl ([.ref (r 0), .int (nI (fi)), .int (nI (e0)), .int (nI (s0)), .int (bI (lt))])).length) Slot.unset).toArray = ls at hl ⊢
  have hl : lv_has ls 13 [(0, .ref (r 0)), (1, .int (nI (fi))), (2, .int (nI (e0))), (3, .int (nI (s0))), (4, .int (bI (lt)))] := hl
  refine lv_aload_n hx hb dM_waysFrom_0 rfl (lv_at hl 0 rfl) ?_
  refine vp_callSi (W.runV (As := []) (rest := []) ⟨hx, hb, hml, hown, hbw⟩ (tM_from l dC dI r cI cZ cG b g ev hev hg1) (cwV 0 hbw (bw_V km_M_66 ki_yM_from ksel_yM_from ki_EventPatternsModel kcM_from) rfl rfl rfl (by decide +kernel) ⟨Nat.le_of_ble_eq_true rfl, Nat.le_of_ble_eq_true rfl⟩) ⟨fun a U g mk q => by obtain ⟨q0, qP, qK⟩ := q; exact ⟨q0, qP, va_K.moved (u := U) (U := U.calling g mk a) (Vm.Alike.refl U.vm) qK⟩, va_recv hK hP (ci := 1) (q0 := 0) rfl rfl, fun U hU hW => ⟨rfl, by rw [hU]; exact hP, va_K.moved hW.alike hK⟩⟩ rfl rfl hl.1 rfl (lv_room (Nat.le_of_ble_eq_true rfl)) dM_waysFrom_1 ⟨Nat.le_of_ble_eq_true rfl, Nat.le_of_ble_eq_true rfl⟩) (fun r_1 hq => ?_)
  subst hq
  refine lv_istore (lv' := [(5, .int (nI (ev - 16))), (0, .ref (r 0)), (1, .int (nI (fi))), (2, .int (nI (e0))), (3, .int (nI (s0))), (4, .int (bI (lt)))]) hx hb dM_waysFrom_4 hl (by decide) rfl (fun ls hl => ?_)
  refine lv_iconst (v := 0) hx hb dM_waysFrom_6 (by decide) ?_
  refine lv_istore (lv' := [(6, .int (0)), (5, .int (nI (ev - 16))), (0, .ref (r 0)), (1, .int (nI (fi))), (2, .int (nI (e0))), (3, .int (nI (s0))), (4, .int (bI (lt)))]) hx hb dM_waysFrom_7 hl (by decide) rfl (fun ls hl => ?_)
  have hP : va_P (dC, dI) cls2 (mw r cI cZ (va_up b 7 (b 7)) g) s.heap := hP
  have hD : va_D A (mw r cI cZ (va_up b 7 (b 7)) g) := hD
  refine lM_Z l dC dI r cI cZ cG b g (nI fi) (nI e0) (nI s0) (bI lt) (nI (ev - 16)) hx hb hml hown hbw hK 80 0 (b 7) s.heap [] ls (by omega) (by omega) (fun j hj => by omega) (lv_sub hl [0, 2, 3, 4, 5, 6, 1] rfl) hP hD hS (fun y H locs ls hy hl hP hD hS => ?_)
  refine lv_aload_n hx hb dM_waysFrom_30 rfl (lv_at hl 0 rfl) ?_
  refine va_get (D := (dC, dI)) (ci := 1) (v := .ref (r 8)) (C := "EventPatternsModel") (T := TM) (N := 16) hx hb hbw inM hown hK hP 0 rfl rfl 12 (by decide) (hbw _ kf_M_32) (fun _ h9 => h9) rfl dM_waysFrom_31 ?_
  refine lv_iconst (v := 5) hx hb dM_waysFrom_34 (by decide) ?_
  refine lv_iload_n hx hb dM_waysFrom_35 rfl (lv_at hl 2 rfl) ?_
  refine lv_iload hx hb dM_waysFrom_36 (lv_at hl 5 rfl) ?_
  refine nr_isub hx hb (a1 := e0) (b1 := ev - 16) (by omega) dM_waysFrom_38 ?_
  refine nr_imul hx hb (a1 := 5) (b1 := e0 - (ev - 16)) dM_waysFrom_39 ?_
  refine lv_iload_n hx hb dM_waysFrom_40 rfl (lv_at hl 3 rfl) ?_
  refine nr_iadd hx hb (a1 := 5 * (e0 - (ev - 16))) (b1 := s0) dM_waysFrom_41 ?_
  refine lv_iconst (v := 1) hx hb dM_waysFrom_42 (by decide) ?_
  refine nr_iast (f := y) hx hb hK hP hD hS 8 0 rfl rfl (j := (5 * (e0 - (ev - 16))) + s0) (by omega) (by decide) dM_waysFrom_43 (fun H locs hP hD hS => ?_)
  have hP : va_P (dC, dI) cls2 (mw r cI cZ (va_up b 7 (upd (y) ((5 * (e0 - (ev - 16))) + s0) (1))) (g)) H := hP
  have hD : va_D A (mw r cI cZ (va_up b 7 (upd (y) ((5 * (e0 - (ev - 16))) + s0) (1))) (g)) := hD
  refine lv_iconst (v := 0) hx hb dM_waysFrom_44 (by decide) ?_
  refine lv_istore (lv' := [(6, .int (0)), (0, .ref (r 0)), (1, .int (nI (fi))), (2, .int (nI (e0))), (3, .int (nI (s0))), (4, .int (bI (lt))), (5, .int (nI (ev - 16)))]) hx hb dM_waysFrom_45 hl (by decide) rfl (fun ls hl => ?_)
  refine lv_iload_n hx hb dM_waysFrom_47 rfl (lv_at hl 3 rfl) ?_
  refine lv_istore (lv' := [(7, .int (nI (e0))), (6, .int (0)), (0, .ref (r 0)), (1, .int (nI (fi))), (2, .int (nI (e0))), (3, .int (nI (s0))), (4, .int (bI (lt))), (5, .int (nI (ev - 16)))]) hx hb dM_waysFrom_48 hl (by decide) rfl (fun ls hl => ?_)
  refine lM_E l dC dI r cI cZ cG b g ev ms fi (nI e0) (nI s0) lt hev hg1 h0 hm hg4 hfi ⟨Nat.le_refl _, Nat.le_refl _⟩ hx hb hml hown hbw hK ev e0 0 (upd y (5 * (e0 - (ev - 16)) + s0) 1) H locs ls (by omega) (by omega) (by omega) (lv_sub hl [0, 1, 2, 3, 4, 5, 6, 7] rfl) hP hD hS (fun H locs ls hl hP hD hS => ?_)
  refine lv_iload hx hb dM_waysFrom_286 (lv_at hl 0 rfl) ?_
  exact W.iret (v := (mWE b g ev ms fi lt (ev + 1) e0 0 (upd y (5 * (e0 - (ev - 16)) + s0) 1)).1) hx hb hr (fun t ht hW => ⟨⟨(mWE b g ev ms fi lt (ev + 1) e0 0 (upd y (5 * (e0 - (ev - 16)) + s0) 1)).1, (va_up b 7 (mWE b g ev ms fi lt (ev + 1) e0 0 (upd y (5 * (e0 - (ev - 16)) + s0) 1)).2, g), rfl, ⟨y, _, hy, rfl, rfl⟩, by rw [ht]; exact hP, va_K.moved hW.alike hK, hD⟩, hS.F ht⟩) hS.2.2 dM_waysFrom_288
end
section
/-! COUNTING WAYS: nodes 0 .. 79 (five steps of sixteen events), edges that go up; forward and backward counting agree -/
def wsum (Y d : Nat → Nat) : Nat → Nat → Nat
  | 0, _ => 0
  | k + 1, lo => Y lo * d lo + wsum Y d k (lo + 1)
theorem wsum_congr {Y Y2 d d2 : Nat → Nat} : ∀ (k lo : Nat), (∀ j, lo ≤ j → j < lo + k → Y j = Y2 j ∧ d j = d2 j) → wsum Y d k lo = wsum Y2 d2 k lo := by
  intro k
  induction k with
  | zero => intro lo h; rfl
  | succ k ih =>
    intro lo h
    obtain ⟨h1, h2⟩ := h lo (by omega) (by omega)
    rw [wsum, wsum, h1, h2, ih (lo + 1) (fun j a b => h j (by omega) (by omega))]
theorem wsum_zero {Y d : Nat → Nat} : ∀ (k lo : Nat), (∀ j, lo ≤ j → j < lo + k → Y j = 0) → wsum Y d k lo = 0 := by
  intro k
  induction k with
  | zero => intro lo h; rfl
  | succ k ih =>
    intro lo h
    rw [wsum, h lo (by omega) (by omega), ih (lo + 1) (fun j a b => h j (by omega) (by omega)), Nat.zero_mul]
theorem wsum_lin {Y E d : Nat → Nat} (c : Nat) : ∀ (k lo : Nat), wsum (fun j => Y j + c * E j) d k lo = wsum Y d k lo + c * wsum E d k lo := by
  intro k
  induction k with
  | zero => intro lo; rfl
  | succ k ih =>
    intro lo
    simp only [wsum]
    rw [ih (lo + 1), Nat.add_mul, Nat.mul_add, Nat.mul_assoc]
    omega
theorem wsum_ge {Y d : Nat → Nat} : ∀ (k lo j : Nat), lo ≤ j → j < lo + k → Y j * d j ≤ wsum Y d k lo := by
  intro k
  induction k with
  | zero => intro lo j h1 h2; omega
  | succ k ih =>
    intro lo j h1 h2
    rw [wsum]
    by_cases h : j = lo
    · subst h; omega
    · have := ih (lo + 1) j (by omega) (by omega)
      omega
theorem wsum_split {Y d : Nat → Nat} : ∀ (k m lo : Nat), wsum Y d (k + m) lo = wsum Y d k lo + wsum Y d m (lo + k) := by
  intro k
  induction k with
  | zero => intro m lo; simp [wsum]
  | succ k ih =>
    intro m lo
    rw [show k + 1 + m = (k + m) + 1 by omega, wsum, wsum, ih m (lo + 1), show lo + 1 + k = lo + (k + 1) by omega]
    omega
/-- backward: the ways from node i on -/
def bi (E : Nat → Nat → Nat) (ba : Nat → Nat) : Nat → Nat → Nat
  | 0, _ => 0
  | k + 1, i => ba i + wsum (E i) (bi E ba k) (79 - i) (i + 1)
theorem bi_fuel (E : Nat → Nat → Nat) (ba : Nat → Nat) : ∀ (k k2 i : Nat), i < 80 → 80 - i ≤ k → 80 - i ≤ k2 → bi E ba k i = bi E ba k2 i := by
  intro k
  induction k with
  | zero => intro k2 i h1 h2 h3; omega
  | succ k ih =>
    intro k2 i h1 h2 h3
    obtain ⟨m, rfl⟩ : ∃ m, k2 = m + 1 := ⟨k2 - 1, by omega⟩
    rw [bi, bi, wsum_congr (79 - i) (i + 1) (fun j a b => ⟨rfl, ih m j (by omega) (by omega) (by omega)⟩)]
def bI80 (E : Nat → Nat → Nat) (ba : Nat → Nat) (i : Nat) : Nat := bi E ba 80 i
theorem bI80_eq (E : Nat → Nat → Nat) (ba : Nat → Nat) {i : Nat} (h : i < 80) : bI80 E ba i = ba i + wsum (E i) (bI80 E ba) (79 - i) (i + 1) := by
  unfold bI80
  rw [show bi E ba 80 i = bi E ba (79 + 1) i from rfl, bi, wsum_congr (79 - i) (i + 1) (fun j a b => ⟨rfl, bi_fuel E ba 79 80 j (by omega) (by omega) (by omega)⟩)]
/-- forward: one node after the other hands on what came to it -/
def fwA (E : Nat → Nat → Nat) (ba : Nat → Nat) : Nat → Nat → Nat → (Nat → Nat) → Nat × (Nat → Nat)
  | 0, _, A, Y => (A, Y)
  | k + 1, i, A, Y => fwA E ba k (i + 1) (A + ba i * Y i) (fun j => Y j + Y i * E i j)
theorem fwA_val (E : Nat → Nat → Nat) (ba : Nat → Nat) : ∀ (k i A : Nat) (Y : Nat → Nat), i + k ≤ 80 → A + wsum Y (bI80 E ba) (80 - i) i = (fwA E ba k i A Y).1 + wsum (fwA E ba k i A Y).2 (bI80 E ba) (80 - (i + k)) (i + k) := by
  intro k
  induction k with
  | zero => intro i A Y h; rfl
  | succ k ih =>
    intro i A Y h
    have e1 := ih (i + 1) (A + ba i * Y i) (fun j => Y j + Y i * E i j) (by omega)
    rw [show i + 1 + k = i + (k + 1) by omega] at e1
    rw [fwA, ← e1, wsum_lin, show 80 - i = (80 - (i + 1)) + 1 by omega, wsum, bI80_eq E ba (i := i) (by omega), Nat.mul_add, show 79 - i = 80 - (i + 1) by omega, Nat.mul_comm (ba i)]
    omega
/-- what comes to a node stays small -/
theorem fwA_small (E : Nat → Nat → Nat) (ba V : Nat → Nat) (M : Nat) (hV : ∀ i, i < 80 → wsum (E i) V (79 - i) (i + 1) ≤ V i) (h1 : ∀ i, i < 80 → 1 ≤ V i) : ∀ (k i A : Nat) (Y : Nat → Nat), i + k ≤ 80 → wsum Y V (80 - i) i ≤ M → wsum (fwA E ba k i A Y).2 V (80 - (i + k)) (i + k) ≤ M := by
  intro k
  induction k with
  | zero => intro i A Y h hM; exact hM
  | succ k ih =>
    intro i A Y h hM
    rw [fwA, show i + (k + 1) = i + 1 + k by omega]
    refine ih (i + 1) _ _ (by omega) ?_
    rw [wsum_lin]
    rw [show 80 - i = (80 - (i + 1)) + 1 by omega, wsum] at hM
    have h2 := Nat.mul_le_mul_left (Y i) (hV i (by omega))
    rw [show 79 - i = 80 - (i + 1) by omega] at h2
    omega
/-- five nodes of an event: only those of two neighbouring steps count -/
theorem wsum_block {Y d : Nat → Nat} {k p s : Nat} (hs : s < 5) (h : ∀ j, j < 5 → j ≠ s → j ≠ s + 1 → Y (5 * p + j) = 0) : wsum Y d (k + 5) (5 * p) = Y (5 * p + s) * d (5 * p + s) + (if s + 1 < 5 then Y (5 * p + (s + 1)) * d (5 * p + (s + 1)) else 0) + wsum Y d k (5 * (p + 1)) := by
  have e : wsum Y d (k + 5) (5 * p) = Y (5 * p) * d (5 * p) + (Y (5 * p + 1) * d (5 * p + 1) + (Y (5 * p + 2) * d (5 * p + 2) + (Y (5 * p + 3) * d (5 * p + 3) + (Y (5 * p + 4) * d (5 * p + 4) + wsum Y d k (5 * (p + 1)))))) := by
    simp only [wsum]
    rfl
  rw [e]
  have z : ∀ j, j < 5 → j ≠ s → j ≠ s + 1 → Y (5 * p + j) * d (5 * p + j) = 0 := fun j a b c => by rw [h j a b c, Nat.zero_mul]
  rcases (show s = 0 ∨ s = 1 ∨ s = 2 ∨ s = 3 ∨ s = 4 by omega) with rfl | rfl | rfl | rfl | rfl
  · have z2 := z 2 (by omega) (by omega) (by omega); have z3 := z 3 (by omega) (by omega) (by omega); have z4 := z 4 (by omega) (by omega) (by omega)
    rw [z2, z3, z4, if_pos (by omega)]; simp only [Nat.add_zero, Nat.zero_add, Nat.reduceAdd]; omega
  · have z0 := z 0 (by omega) (by omega) (by omega); have z3 := z 3 (by omega) (by omega) (by omega); have z4 := z 4 (by omega) (by omega) (by omega)
    rw [Nat.add_zero] at z0
    rw [z0, z3, z4, if_pos (by omega)]; simp only [Nat.zero_add, Nat.reduceAdd]; omega
  · have z0 := z 0 (by omega) (by omega) (by omega); have z1 := z 1 (by omega) (by omega) (by omega); have z4 := z 4 (by omega) (by omega) (by omega)
    rw [Nat.add_zero] at z0
    rw [z0, z1, z4, if_pos (by omega)]; simp only [Nat.zero_add, Nat.reduceAdd]; omega
  · have z0 := z 0 (by omega) (by omega) (by omega); have z1 := z 1 (by omega) (by omega) (by omega); have z2 := z 2 (by omega) (by omega) (by omega)
    rw [Nat.add_zero] at z0
    rw [z0, z1, z2, if_pos (by omega)]; simp only [Nat.zero_add, Nat.reduceAdd]; omega
  · have z0 := z 0 (by omega) (by omega) (by omega); have z1 := z 1 (by omega) (by omega) (by omega); have z2 := z 2 (by omega) (by omega) (by omega); have z3 := z 3 (by omega) (by omega) (by omega)
    rw [Nat.add_zero] at z0
    rw [z0, z1, z2, z3, if_neg (by omega)]; omega
end
section
/-! THE REFERENCE'S WAYS ARE THE FORWARD COUNT -/
def eN (x : Bool) : Nat := if x then 1 else 0
def gE (b : Nat → Nat → Int32) (g : Nat → Int32) (ev ms fi i j : Nat) : Bool :=
  decide (i / 5 < j / 5) && (decide ((ev - 16) + j / 5 < mEnd g ev ((ev - 16) + i / 5)) && (decide (i % 5 < ms) && (decide (j % 5 < ms) && (mFit1 b g ((ev - 16) + j / 5) (j % 5) ((ev - 16) + i / 5) fi && ((decide (j % 5 = i % 5) && !decide (b 6 (i % 5) = 0)) || decide (j % 5 = i % 5 + 1))))))
def gEn (b : Nat → Nat → Int32) (g : Nat → Int32) (ev ms fi i j : Nat) : Nat := eN (gE b g ev ms fi i j)
def gBa (ev ms : Nat) (lt : Bool) (i : Nat) : Nat := eN (decide (i % 5 + 1 = ms) && (!lt || decide ((ev - 16) + i / 5 + 1 = ev)))
theorem mNN_eq {b : Nat → Nat → Int32} {g : Nat → Int32} {ev ms fi e1 st v nx : Nat} (hst : st < ms) (hms : ms ≤ 5) (hb : ev - 16 ≤ e1) (h1 : e1 < nx) (h2 : nx < mEnd g ev e1) (y : Nat → Int32) (j : Nat) :
    mN2 b g ev ms fi e1 st (nI v) nx (mN1 b g ev fi e1 st (nI v) nx y) j = y j + nI (v * eN (gE b g ev ms fi (5 * (e1 - (ev - 16)) + st) j && decide ((ev - 16) + j / 5 = nx))) := by
  have hi1 : (5 * (e1 - (ev - 16)) + st) / 5 = e1 - (ev - 16) := by omega
  have hi2 : (5 * (e1 - (ev - 16)) + st) % 5 = st := by omega
  have hb2 : (ev - 16) + (e1 - (ev - 16)) = e1 := by omega
  have z : y j + nI (v * eN false) = y j := by show y j + nI (v * 0) = y j; rw [Nat.mul_zero, nI_0, Int32.add_zero]
  have o : y j + nI (v * eN true) = y j + nI v := by show y j + nI (v * 1) = y j + nI v; rw [Nat.mul_one]
  unfold gE
  rw [hi1, hi2, hb2]
  by_cases hn : (ev - 16) + j / 5 = nx
  · rw [hn, decide_eq_true (show e1 - (ev - 16) < j / 5 by omega), decide_eq_true h2, decide_eq_true hst, decide_eq_true (rfl : nx = nx), Bool.true_and, Bool.true_and, Bool.true_and, Bool.and_true]
    by_cases k1 : j % 5 = st
    · have m2 : ∀ Y : Nat → Int32, mN2 b g ev ms fi e1 st (nI v) nx Y j = Y j := by
        intro Y; unfold mN2; split
        · rfl
        · exact pk_un (by omega)
      rw [m2, k1, decide_eq_true hst, decide_eq_true (rfl : st = st), decide_eq_false (show ¬ st = st + 1 by omega), Bool.true_and, Bool.true_and, Bool.or_false]
      unfold mN1
      by_cases k2 : b 6 st = 0
      · rw [if_pos (Or.inl k2), decide_eq_true k2, Bool.not_true, Bool.and_false, z]
      · rw [decide_eq_false k2, Bool.not_false, Bool.and_true]
        cases k3 : mFit1 b g nx st e1 fi with
        | false => rw [if_pos (Or.inr rfl), z]
        | true =>
          rw [if_neg (by rintro (h | h); exact k2 h; cases h), show 5 * (nx - (ev - 16)) + st = j by omega, pk_us, o]
    · by_cases k2 : j % 5 = st + 1
      · have m1 : mN1 b g ev fi e1 st (nI v) nx y j = y j := by
          unfold mN1; split
          · rfl
          · exact pk_un (by omega)
        rw [k2, decide_eq_false (show ¬ st + 1 = st by omega), Bool.false_and, Bool.false_or, decide_eq_true (rfl : st + 1 = st + 1), Bool.and_true]
        unfold mN2
        by_cases k3 : st + 1 < ms
        · rw [decide_eq_true k3, Bool.true_and]
          cases k4 : mFit1 b g nx (st + 1) e1 fi with
          | false => rw [if_pos (Or.inr rfl), m1, z]
          | true =>
            rw [if_neg (by rintro (h | h); omega; cases h), show 5 * (nx - (ev - 16)) + st + 1 = j by omega, pk_us, m1, o]
        · rw [decide_eq_false k3, Bool.false_and, if_pos (Or.inl (by omega)), m1, z]
      · rw [decide_eq_false k1, decide_eq_false k2, Bool.false_and, Bool.or_false, Bool.and_false, Bool.and_false, z]
        have m1 : mN1 b g ev fi e1 st (nI v) nx y j = y j := by
          unfold mN1; split
          · rfl
          · exact pk_un (by omega)
        unfold mN2; split
        · exact m1
        · exact (pk_un (by omega)).trans m1
  · rw [decide_eq_false hn, Bool.and_false, z]
    have m1 : mN1 b g ev fi e1 st (nI v) nx y j = y j := by
      unfold mN1; split
      · rfl
      · exact pk_un (by omega)
    unfold mN2; split
    · exact m1
    · exact (pk_un (by omega)).trans m1
theorem mWN_eq {b : Nat → Nat → Int32} {g : Nat → Int32} {ev ms fi e1 st v : Nat} (hst : st < ms) (hms : ms ≤ 5) (hb : ev - 16 ≤ e1) (hv : v < 2 ^ 31) : ∀ (k nx : Nat) (y : Nat → Int32), mEnd g ev e1 < nx + k → e1 < nx → ∀ j,
    mWN b g ev ms fi e1 st (mEnd g ev e1) (nI v) k nx y j = y j + nI (v * eN (gE b g ev ms fi (5 * (e1 - (ev - 16)) + st) j && decide (nx ≤ (ev - 16) + j / 5))) := by
  intro k
  have z : ∀ x : Int32, x + nI (v * eN false) = x := fun x => by show x + nI (v * 0) = x; rw [Nat.mul_zero, nI_0, Int32.add_zero]
  have hi1 : (5 * (e1 - (ev - 16)) + st) / 5 = e1 - (ev - 16) := by omega
  have hb2 : (ev - 16) + (e1 - (ev - 16)) = e1 := by omega
  have far : ∀ j nx, mEnd g ev e1 ≤ nx → (gE b g ev ms fi (5 * (e1 - (ev - 16)) + st) j && decide (nx ≤ (ev - 16) + j / 5)) = false := by
    intro j nx h
    by_cases hn : nx ≤ (ev - 16) + j / 5
    · unfold gE
      rw [hi1, hb2, decide_eq_false (show ¬ (ev - 16) + j / 5 < mEnd g ev e1 by omega), Bool.false_and, Bool.and_false, Bool.false_and]
    · rw [decide_eq_false hn, Bool.and_false]
  induction k with
  | zero => intro nx y h1 h2 j; rw [far j nx (by omega), z]; rfl
  | succ k ih =>
    intro nx y h1 h2 j
    by_cases hc : nx < mEnd g ev e1 ∧ 0 < nI v
    · rw [mWN, if_pos hc, ih (nx + 1) _ (by omega) (by omega) j, mNN_eq hst hms hb h2 hc.1, Int32.add_assoc, nI_add, ← Nat.mul_add]
      congr 3
      by_cases h3 : (ev - 16) + j / 5 = nx
      · rw [decide_eq_true h3, decide_eq_false (show ¬ nx + 1 ≤ (ev - 16) + j / 5 by omega), decide_eq_true (show nx ≤ (ev - 16) + j / 5 by omega), Bool.and_true, Bool.and_false]; rfl
      · rw [decide_eq_false h3, Bool.and_false]
        by_cases h4 : nx + 1 ≤ (ev - 16) + j / 5
        · rw [decide_eq_true h4, decide_eq_true (show nx ≤ (ev - 16) + j / 5 by omega)]; show 0 + _ = _; rw [Nat.zero_add]
        · rw [decide_eq_false h4, decide_eq_false (show ¬ nx ≤ (ev - 16) + j / 5 by omega), Bool.and_false]; rfl
    · rw [mWN, if_neg hc]
      by_cases h3 : nx < mEnd g ev e1
      · have h4 : v = 0 := by
          rcases Nat.eq_zero_or_pos v with h | h
          · exact h
          · exact absurd ⟨h3, by rw [← nI_0]; exact (nI_ltI (by omega) hv).mpr h⟩ hc
        subst h4
        rw [Nat.zero_mul, nI_0, Int32.add_zero]
      · rw [far j nx (by omega), z]
end
section
/-! THE REFERENCE'S waysFrom IS THE BACKWARD COUNT -/
def vW (i : Nat) : Nat := 3 ^ (15 - i / 5)
theorem eN_le (x : Bool) : eN x ≤ 1 := by cases x <;> decide
/-- edges that go up by two neighbouring steps at most: what they weigh together -/
theorem vW_tail {E : Nat → Nat} {s : Nat} (hs : s < 5) (h1 : ∀ j, E j ≤ 1) (h2 : ∀ j, j % 5 ≠ s → j % 5 ≠ s + 1 → E j = 0) : ∀ k, k ≤ 16 → wsum E vW (5 * k) (5 * (16 - k)) + 1 ≤ 3 ^ k := by
  intro k
  induction k with
  | zero => intro _; show 0 + 1 ≤ 1; omega
  | succ k ih =>
    intro hk
    have hi := ih (by omega)
    have e := wsum_block (Y := E) (d := vW) (k := 5 * k) (p := 16 - (k + 1)) (s := s) hs (fun j a b c => h2 _ (by omega) (by omega))
    rw [show 5 * (k + 1) = 5 * k + 5 by omega, e, show 5 * (16 - (k + 1) + 1) = 5 * (16 - k) by omega]
    have v1 : ∀ j, j < 5 → vW (5 * (16 - (k + 1)) + j) = 3 ^ k := by
      intro j hj
      unfold vW
      rw [show 15 - (5 * (16 - (k + 1)) + j) / 5 = k by omega]
    have a1 : E (5 * (16 - (k + 1)) + s) * vW (5 * (16 - (k + 1)) + s) ≤ 3 ^ k := by
      rw [v1 s hs]
      exact Nat.le_trans (Nat.mul_le_mul_right _ (h1 _)) (by rw [Nat.one_mul]; exact Nat.le_refl _)
    have a2 : (if s + 1 < 5 then E (5 * (16 - (k + 1)) + (s + 1)) * vW (5 * (16 - (k + 1)) + (s + 1)) else 0) ≤ 3 ^ k := by
      split
      · rename_i h5
        rw [v1 (s + 1) h5]
        exact Nat.le_trans (Nat.mul_le_mul_right _ (h1 _)) (by rw [Nat.one_mul]; exact Nat.le_refl _)
      · exact Nat.zero_le _
    rw [Nat.pow_succ]
    omega
theorem vW_ok {E : Nat → Nat → Nat} (h1 : ∀ i j, E i j ≤ 1) (h2 : ∀ i j, j % 5 ≠ i % 5 → j % 5 ≠ i % 5 + 1 → E i j = 0) (h3 : ∀ i j, j / 5 ≤ i / 5 → E i j = 0) : ∀ i, i < 80 → wsum (E i) vW (79 - i) (i + 1) ≤ vW i := by
  intro i hi
  have t := vW_tail (E := E i) (s := i % 5) (by omega) (h1 i) (fun j a b => h2 i j a b) (15 - i / 5) (by omega)
  rw [show 79 - i = (5 * (i / 5 + 1) - (i + 1)) + 5 * (15 - i / 5) by omega, wsum_split, wsum_zero _ _ (fun j a b => h3 i j (by omega)), Nat.zero_add, show i + 1 + (5 * (i / 5 + 1) - (i + 1)) = 5 * (16 - (15 - i / 5)) by omega]
  have e9 : vW i = 3 ^ (15 - i / 5) := rfl
  omega
theorem gEn_1 (b : Nat → Nat → Int32) (g : Nat → Int32) (ev ms fi i j : Nat) : gEn b g ev ms fi i j ≤ 1 := eN_le _
theorem gE_f {b : Nat → Nat → Int32} {g : Nat → Int32} {ev ms fi i j : Nat} (h : gE b g ev ms fi i j = true) : i / 5 < j / 5 ∧ (ev - 16) + j / 5 < mEnd g ev ((ev - 16) + i / 5) ∧ i % 5 < ms ∧ j % 5 < ms ∧ (j % 5 = i % 5 ∨ j % 5 = i % 5 + 1) := by
  unfold gE at h
  simp only [Bool.and_eq_true, Bool.or_eq_true, decide_eq_true_eq] at h
  exact ⟨h.1, h.2.1, h.2.2.1, h.2.2.2.1, h.2.2.2.2.2.elim (fun q => Or.inl q.1) Or.inr⟩
theorem gEn_0 {b : Nat → Nat → Int32} {g : Nat → Int32} {ev ms fi i j : Nat} (h : ¬ gE b g ev ms fi i j = true) : gEn b g ev ms fi i j = 0 := by
  unfold gEn
  rw [Bool.not_eq_true] at h
  rw [h]; rfl
theorem gEn_ok (b : Nat → Nat → Int32) (g : Nat → Int32) (ev ms fi : Nat) : ∀ i, i < 80 → wsum (gEn b g ev ms fi i) vW (79 - i) (i + 1) ≤ vW i :=
  vW_ok (gEn_1 b g ev ms fi) (fun i j h1 h2 => gEn_0 (fun h => (gE_f h).2.2.2.2.elim h1 h2)) (fun i j h1 => gEn_0 (fun h => absurd (gE_f h).1 (by omega)))
theorem vW_pos (i : Nat) : 1 ≤ vW i := Nat.pos_of_ne_zero (by unfold vW; exact Nat.pos_iff_ne_zero.mp (Nat.pow_pos (by decide)))
theorem mEnd_le (g : Nat → Int32) (ev e1 : Nat) : mEnd g ev e1 ≤ ev := by unfold mEnd; split <;> omega
theorem fwA_one (E : Nat → Nat → Nat) (ba : Nat → Nat) {M i A : Nat} {Y : Nat → Nat} (hV : ∀ i, i < 80 → wsum (E i) vW (79 - i) (i + 1) ≤ vW i) (hi : i < 80) (hM : wsum Y vW (80 - i) i ≤ M) : wsum (fun j => Y j + Y i * E i j) vW (80 - (i + 1)) (i + 1) ≤ M :=
  fwA_small E ba vW M hV (fun i _ => vW_pos i) 1 i A Y (by omega) hM
theorem small_of {M i : Nat} {Y : Nat → Nat} (hi : i < 80) (hM : wsum Y vW (80 - i) i ≤ M) : Y i ≤ M := by
  have h := wsum_ge (Y := Y) (d := vW) (80 - i) i i (Nat.le_refl _) (by omega)
  have h2 := Nat.mul_le_mul_left (Y i) (vW_pos i)
  omega
theorem mWS_eq {b : Nat → Nat → Int32} {g : Nat → Int32} {ev ms fi e1 : Nat} {lt : Bool} {M : Nat} (hM31 : M < 2 ^ 31) (hms : ms ≤ 5) (hb : ev - 16 ≤ e1) (he : e1 < ev) : ∀ (k st A : Nat) (Y : Nat → Nat) (acc : Int32) (y : Nat → Int32), ms < st + k → st ≤ ms → acc = nI A → (∀ j, j < 80 → y j = nI (Y j)) → wsum Y vW (80 - (5 * (e1 - (ev - 16)) + st)) (5 * (e1 - (ev - 16)) + st) ≤ M →
    (mWS b g ev ms fi e1 (mEnd g ev e1) lt k st acc y).1 = nI (fwA (gEn b g ev ms fi) (gBa ev ms lt) (ms - st) (5 * (e1 - (ev - 16)) + st) A Y).1 ∧ (∀ j, j < 80 → (mWS b g ev ms fi e1 (mEnd g ev e1) lt k st acc y).2 j = nI ((fwA (gEn b g ev ms fi) (gBa ev ms lt) (ms - st) (5 * (e1 - (ev - 16)) + st) A Y).2 j)) ∧ wsum (fwA (gEn b g ev ms fi) (gBa ev ms lt) (ms - st) (5 * (e1 - (ev - 16)) + st) A Y).2 vW (80 - (5 * (e1 - (ev - 16)) + ms)) (5 * (e1 - (ev - 16)) + ms) ≤ M := by
  intro k
  induction k with
  | zero => intro st A Y acc y h1 h2; omega
  | succ k ih =>
    intro st A Y acc y h1 h2 ha hy hM
    by_cases hst : st < ms
    · have hi : 5 * (e1 - (ev - 16)) + st < 80 := by omega
      have hv : Y (5 * (e1 - (ev - 16)) + st) < 2 ^ 31 := Nat.lt_of_le_of_lt (small_of hi hM) hM31
      rw [mWS, if_pos hst, hy _ hi, show ms - st = (ms - (st + 1)) + 1 by omega, fwA]
      have hi1 : (5 * (e1 - (ev - 16)) + st) / 5 = e1 - (ev - 16) := by omega
      have hi2 : (5 * (e1 - (ev - 16)) + st) % 5 = st := by omega
      have r := ih (st + 1) (A + gBa ev ms lt (5 * (e1 - (ev - 16)) + st) * Y (5 * (e1 - (ev - 16)) + st)) (fun j => Y j + Y (5 * (e1 - (ev - 16)) + st) * gEn b g ev ms fi (5 * (e1 - (ev - 16)) + st) j) (mAcc ev ms e1 st lt acc (nI (Y (5 * (e1 - (ev - 16)) + st)))) (mWN b g ev ms fi e1 st (mEnd g ev e1) (nI (Y (5 * (e1 - (ev - 16)) + st))) (mEnd g ev e1 + 1) (e1 + 1) y) (by omega) (by omega) ?_ ?_ ?_
      · exact r
      · unfold mAcc gBa
        rw [hi1, hi2, show (ev - 16) + (e1 - (ev - 16)) = e1 by omega, ha]
        by_cases hc : st + 1 = ms ∧ (lt = false ∨ e1 + 1 = ev)
        · rw [if_pos hc, nI_add, decide_eq_true hc.1, Bool.true_and]
          have e : (!lt || decide (e1 + 1 = ev)) = true := by
            rcases hc.2 with h | h
            · rw [h]; rfl
            · rw [decide_eq_true h, Bool.or_true]
          rw [e]; show _ = nI (A + 1 * _); rw [Nat.one_mul]
        · rw [if_neg hc]
          have e : (decide (st + 1 = ms) && (!lt || decide (e1 + 1 = ev))) = false := by
            by_cases c1 : st + 1 = ms
            · by_cases c2 : e1 + 1 = ev
              · exact absurd ⟨c1, Or.inr c2⟩ hc
              · cases hl : lt with
                | false => exact absurd ⟨c1, Or.inl hl⟩ hc
                | true => rw [decide_eq_false c2]; simp
            · rw [decide_eq_false c1]; rfl
          rw [e]; show _ = nI (A + 0 * _); rw [Nat.zero_mul, Nat.add_zero]
      · intro j hj
        rw [mWN_eq hst hms hb hv (mEnd g ev e1 + 1) (e1 + 1) y (by omega) (by omega) j, hy j hj, nI_add]
        congr 2
        unfold gEn
        cases hg : gE b g ev ms fi (5 * (e1 - (ev - 16)) + st) j with
        | false => rfl
        | true =>
          have h9 := (gE_f hg).1
          rw [hi1] at h9
          rw [decide_eq_true (show e1 + 1 ≤ (ev - 16) + j / 5 by omega)]; rfl
      · exact fwA_one (gEn b g ev ms fi) (gBa ev ms lt) (A := A) (gEn_ok b g ev ms fi) hi hM
    · have e : st = ms := by omega
      subst e
      rw [mWS, if_neg hst, Nat.sub_self]
      exact ⟨ha, hy, hM⟩
theorem fwA_idle (E : Nat → Nat → Nat) (ba : Nat → Nat) : ∀ (k i A : Nat) (Y : Nat → Nat), (∀ j, i ≤ j → j < i + k → ba j = 0 ∧ ∀ z, E j z = 0) → fwA E ba k i A Y = (A, Y) := by
  intro k
  induction k with
  | zero => intro i A Y h; rfl
  | succ k ih =>
    intro i A Y h
    obtain ⟨h1, h2⟩ := h i (by omega) (by omega)
    have e : (fun j => Y j + Y i * E i j) = Y := funext fun j => by rw [h2 j, Nat.mul_zero, Nat.add_zero]
    rw [fwA, h1, Nat.zero_mul, Nat.add_zero, e]
    exact ih (i + 1) A Y (fun j a b => h j (by omega) (by omega))
theorem fwA_two (E : Nat → Nat → Nat) (ba : Nat → Nat) : ∀ (k m i A : Nat) (Y : Nat → Nat), fwA E ba (k + m) i A Y = fwA E ba m (i + k) (fwA E ba k i A Y).1 (fwA E ba k i A Y).2 := by
  intro k
  induction k with
  | zero => intro m i A Y; simp [fwA]
  | succ k ih =>
    intro m i A Y
    rw [show k + 1 + m = (k + m) + 1 by omega, fwA, fwA, ih m (i + 1), show i + 1 + k = i + (k + 1) by omega]
theorem fwA_step (b : Nat → Nat → Int32) (g : Nat → Int32) (ev ms fi : Nat) (lt : Bool) (hms : ms ≤ 5) (p A : Nat) (Y : Nat → Nat) : fwA (gEn b g ev ms fi) (gBa ev ms lt) 5 (5 * p) A Y = fwA (gEn b g ev ms fi) (gBa ev ms lt) ms (5 * p) A Y := by
  have e := fwA_two (gEn b g ev ms fi) (gBa ev ms lt) ms (5 - ms) (5 * p) A Y
  rw [show ms + (5 - ms) = 5 by omega] at e
  rw [e, fwA_idle]
  intro j h1 h2
  refine ⟨?_, fun z => gEn_0 (fun h => absurd (gE_f h).2.2.1 (by omega))⟩
  unfold gBa
  rw [decide_eq_false (show ¬ j % 5 + 1 = ms by omega)]; rfl
theorem mWE_eq {b : Nat → Nat → Int32} {g : Nat → Int32} {ev ms fi : Nat} {lt : Bool} {M : Nat} (hM31 : M < 2 ^ 31) (hms : ms ≤ 5) : ∀ (k e1 A : Nat) (Y : Nat → Nat) (acc : Int32) (y : Nat → Int32), ev < e1 + k → ev - 16 ≤ e1 → e1 ≤ ev → acc = nI A → (∀ j, j < 80 → y j = nI (Y j)) → wsum Y vW (80 - 5 * (e1 - (ev - 16))) (5 * (e1 - (ev - 16))) ≤ M →
    (mWE b g ev ms fi lt k e1 acc y).1 = nI (fwA (gEn b g ev ms fi) (gBa ev ms lt) (5 * (ev - e1)) (5 * (e1 - (ev - 16))) A Y).1 := by
  intro k
  induction k with
  | zero => intro e1 A Y acc y h1 h2 h3; omega
  | succ k ih =>
    intro e1 A Y acc y h1 h2 h3 ha hy hM
    by_cases he : e1 < ev
    · rw [mWE, if_pos he, show 5 * (ev - e1) = 5 + 5 * (ev - (e1 + 1)) by omega, fwA_two, fwA_step b g ev ms fi lt hms, show 5 * (e1 - (ev - 16)) + 5 = 5 * (e1 + 1 - (ev - 16)) by omega]
      obtain ⟨r1, r2, r3⟩ := mWS_eq (b := b) (g := g) (fi := fi) (lt := lt) hM31 hms h2 he (ms + 1) 0 A Y acc y (by omega) (by omega) ha hy hM
      rw [Nat.sub_zero, Nat.add_zero] at r1 r2 r3
      refine ih (e1 + 1) _ _ _ _ (by omega) (by omega) (by omega) r1 r2 ?_
      have r4 := fwA_small (gEn b g ev ms fi) (gBa ev ms lt) vW M (gEn_ok b g ev ms fi) (fun i _ => vW_pos i) 5 (5 * (e1 - (ev - 16))) A Y (by omega) hM
      rw [fwA_step b g ev ms fi lt hms, show 5 * (e1 - (ev - 16)) + 5 = 5 * (e1 + 1 - (ev - 16)) by omega] at r4
      exact r4
    · have e : e1 = ev := by omega
      subst e
      rw [mWE, if_neg (by omega), Nat.sub_self, Nat.mul_zero]
      exact ha
theorem fwA_zero (E : Nat → Nat → Nat) (ba : Nat → Nat) (N : Nat) (h : ∀ i j, N ≤ j → E i j = 0) : ∀ (k i A : Nat) (Y : Nat → Nat), (∀ j, N ≤ j → Y j = 0) → ∀ j, N ≤ j → (fwA E ba k i A Y).2 j = 0 := by
  intro k
  induction k with
  | zero => intro i A Y hY j hj; exact hY j hj
  | succ k ih =>
    intro i A Y hY j hj
    rw [fwA]
    exact ih (i + 1) _ _ (fun z hz => by rw [hY z hz, h i z hz, Nat.mul_zero]) j hj
theorem wsum_unit {d : Nat → Nat} {i0 : Nat} : ∀ (k lo : Nat), lo ≤ i0 → i0 < lo + k → wsum (fun j => if j = i0 then 1 else 0) d k lo = d i0 := by
  intro k
  induction k with
  | zero => intro lo h1 h2; omega
  | succ k ih =>
    intro lo h1 h2
    rw [wsum]
    by_cases h : lo = i0
    · subst h
      rw [if_pos rfl, Nat.one_mul, wsum_zero _ _ (fun j a b => if_neg (by omega)), Nat.add_zero]
    · rw [if_neg h, Nat.zero_mul, Nat.zero_add, ih (lo + 1) (by omega) (by omega)]
/-- how many ways there are from the event e0 at the step s0 on -/
def gW (b : Nat → Nat → Int32) (g : Nat → Int32) (ev ms fi : Nat) (lt : Bool) (p s0 : Nat) : Nat := bI80 (gEn b g ev ms fi) (gBa ev ms lt) (5 * p + s0)
theorem mWays {b : Nat → Nat → Int32} {g : Nat → Int32} {ev ms fi e0 s0 : Nat} {lt : Bool} (hms : ms ≤ 5) (h1 : ev - 16 ≤ e0) (h2 : e0 < ev) (h3 : s0 < ms) {y : Nat → Int32} (hy : ∀ j, j < 80 → y j = 0) :
    (mWE b g ev ms fi lt (ev + 1) e0 0 (upd y (5 * (e0 - (ev - 16)) + s0) 1)).1 = nI (gW b g ev ms fi lt (e0 - (ev - 16)) s0) := by
  have hi0 : 5 * (e0 - (ev - 16)) + s0 < 80 := by omega
  have hu : ∀ (d : Nat → Nat), wsum (fun j => if j = 5 * (e0 - (ev - 16)) + s0 then 1 else 0) d (80 - 5 * (e0 - (ev - 16))) (5 * (e0 - (ev - 16))) = d (5 * (e0 - (ev - 16)) + s0) := fun d => wsum_unit _ _ (by omega) (by omega)
  have hM : wsum (fun j => if j = 5 * (e0 - (ev - 16)) + s0 then 1 else 0) vW (80 - 5 * (e0 - (ev - 16))) (5 * (e0 - (ev - 16))) ≤ 3 ^ 15 := by
    rw [hu]
    exact Nat.pow_le_pow_right (by decide) (by omega)
  rw [mWE_eq (M := 3 ^ 15) (by decide) hms (ev + 1) e0 0 (fun j => if j = 5 * (e0 - (ev - 16)) + s0 then 1 else 0) 0 _ (by omega) h1 (by omega) rfl (fun j hj => by
    by_cases h : j = 5 * (e0 - (ev - 16)) + s0
    · rw [if_pos h, h]; exact pk_us
    · rw [if_neg h]; exact (pk_un h).trans (hy j hj)) hM]
  have v := fwA_val (gEn b g ev ms fi) (gBa ev ms lt) (5 * (ev - e0)) (5 * (e0 - (ev - 16))) 0 (fun j => if j = 5 * (e0 - (ev - 16)) + s0 then 1 else 0) (by omega)
  have z := fwA_zero (gEn b g ev ms fi) (gBa ev ms lt) (5 * (ev - (ev - 16))) (fun i j hj => gEn_0 (fun h => by have := (gE_f h).2.1; have := mEnd_le g ev (ev - 16 + i / 5); omega)) (5 * (ev - e0)) (5 * (e0 - (ev - 16))) 0 (fun j => if j = 5 * (e0 - (ev - 16)) + s0 then 1 else 0) (fun j hj => if_neg (by omega))
  rw [hu, show 5 * (e0 - (ev - 16)) + 5 * (ev - e0) = 5 * (ev - (ev - 16)) by omega, wsum_zero _ _ (fun j a _ => z j a), Nat.zero_add, Nat.add_zero] at v
  rw [← v]; rfl
end
section
/-! WHAT THE COUNTS HANG ON, AND THAT THEY ARE SMALL -/
theorem mIs_c {b b2 : Nat → Nat → Int32} {g g2 : Nat → Int32} (h : ∀ i, i ≤ 6 → b2 i = b i) (h3 : g2 3 = g 3) (e st fi : Nat) : mIs b2 g2 e st fi = mIs b g e st fi := by
  unfold mIs; rw [h 3 (by decide), h 1 (by decide), h 0 (by decide), h3]
theorem mFit1_c {b b2 : Nat → Nat → Int32} {g g2 : Nat → Int32} (h : ∀ i, i ≤ 6 → b2 i = b i) (h3 : g2 3 = g 3) (e st bf fi : Nat) : mFit1 b2 g2 e st bf fi = mFit1 b g e st bf fi := by
  unfold mFit1; rw [mIs_c h h3, h 4 (by decide), h 2 (by decide), h 5 (by decide)]
theorem mFit0_c {b b2 : Nat → Nat → Int32} {g g2 : Nat → Int32} (h : ∀ i, i ≤ 6 → b2 i = b i) (h3 : g2 3 = g 3) (e st fi : Nat) : mFit0 b2 g2 e st fi = mFit0 b g e st fi := by
  unfold mFit0; rw [mIs_c h h3, h 4 (by decide), h 2 (by decide), h 5 (by decide)]
theorem gEn_c {b b2 : Nat → Nat → Int32} {g g2 : Nat → Int32} (h : ∀ i, i ≤ 6 → b2 i = b i) (h2 : g2 2 = g 2) (h3 : g2 3 = g 3) (ev ms fi : Nat) : gEn b2 g2 ev ms fi = gEn b g ev ms fi := by
  funext i j
  unfold gEn gE mEnd
  rw [mFit1_c h h3, h 6 (by decide), h2]
theorem gW_c {b b2 : Nat → Nat → Int32} {g g2 : Nat → Int32} (h : ∀ i, i ≤ 6 → b2 i = b i) (h2 : g2 2 = g 2) (h3 : g2 3 = g 3) (ev ms fi : Nat) (lt : Bool) (p s0 : Nat) : gW b2 g2 ev ms fi lt p s0 = gW b g ev ms fi lt p s0 := by
  unfold gW; rw [gEn_c h h2 h3]
theorem up7 {b : Nat → Nat → Int32} {y : Nat → Int32} : ∀ i, i ≤ 6 → va_up b 7 y i = b i := fun i hi => va_up_ne _ _ (by omega)
theorem vW_ok1 {E : Nat → Nat → Nat} (h1 : ∀ i j, E i j ≤ 1) (h2 : ∀ i j, j % 5 ≠ i % 5 → j % 5 ≠ i % 5 + 1 → E i j = 0) (h3 : ∀ i j, j / 5 ≤ i / 5 → E i j = 0) : ∀ i, i < 80 → wsum (E i) vW (79 - i) (i + 1) + 1 ≤ vW i := by
  intro i hi
  have t := vW_tail (E := E i) (s := i % 5) (by omega) (h1 i) (fun j a b => h2 i j a b) (15 - i / 5) (by omega)
  rw [show 79 - i = (5 * (i / 5 + 1) - (i + 1)) + 5 * (15 - i / 5) by omega, wsum_split, wsum_zero _ _ (fun j a b => h3 i j (by omega)), Nat.zero_add, show i + 1 + (5 * (i / 5 + 1) - (i + 1)) = 5 * (16 - (15 - i / 5)) by omega]
  have e9 : vW i = 3 ^ (15 - i / 5) := rfl
  omega
theorem wsum_mono {Y d d2 : Nat → Nat} : ∀ (k lo : Nat), (∀ j, lo ≤ j → j < lo + k → d j ≤ d2 j) → wsum Y d k lo ≤ wsum Y d2 k lo := by
  intro k
  induction k with
  | zero => intro lo h; exact Nat.le_refl _
  | succ k ih =>
    intro lo h
    rw [wsum, wsum]
    have a := Nat.mul_le_mul_left (Y lo) (h lo (by omega) (by omega))
    have b := ih (lo + 1) (fun j x y => h j (by omega) (by omega))
    omega
theorem bI80_le {E : Nat → Nat → Nat} {ba : Nat → Nat} (h0 : ∀ i, ba i ≤ 1) (hV : ∀ i, i < 80 → wsum (E i) vW (79 - i) (i + 1) + 1 ≤ vW i) : ∀ (k i : Nat), i < 80 → 80 - i ≤ k → bI80 E ba i ≤ vW i := by
  intro k
  induction k with
  | zero => intro i h1 h2; omega
  | succ k ih =>
    intro i h1 h2
    rw [bI80_eq E ba h1]
    have a := wsum_mono (Y := E i) (d := bI80 E ba) (d2 := vW) (79 - i) (i + 1) (fun j x y => ih j (by omega) (by omega))
    have b := h0 i
    have c := hV i h1
    omega
theorem gW_le (b : Nat → Nat → Int32) (g : Nat → Int32) (ev ms fi : Nat) (lt : Bool) {p s0 : Nat} (h : 5 * p + s0 < 80) : gW b g ev ms fi lt p s0 ≤ 3 ^ 15 := by
  have a := bI80_le (E := gEn b g ev ms fi) (ba := gBa ev ms lt) (fun i => eN_le _) (vW_ok1 (gEn_1 b g ev ms fi) (fun i j h1 h2 => gEn_0 (fun h => (gE_f h).2.2.2.2.elim h1 h2)) (fun i j h1 => gEn_0 (fun h => absurd (gE_f h).1 (by omega)))) 80 (5 * p + s0) h (by omega)
  exact Nat.le_trans a (Nat.pow_le_pow_right (by decide) (by omega))
/-- the matches that begin with the event fi -/
def gF (b : Nat → Nat → Int32) (g : Nat → Int32) (ev ms : Nat) (lt : Bool) (fi : Nat) : Nat := if mFit0 b g fi 0 fi then gW b g ev ms fi lt (fi - (ev - 16)) 0 else 0
theorem gF_c {b b2 : Nat → Nat → Int32} {g g2 : Nat → Int32} (h : ∀ i, i ≤ 6 → b2 i = b i) (h2 : g2 2 = g 2) (h3 : g2 3 = g 3) (ev ms : Nat) (lt : Bool) (fi : Nat) : gF b2 g2 ev ms lt fi = gF b g ev ms lt fi := by
  unfold gF; rw [mFit0_c h h3, gW_c h h2 h3]
theorem gF_le (b : Nat → Nat → Int32) (g : Nat → Int32) (ev ms : Nat) (lt : Bool) {fi : Nat} (h : fi < ev) : gF b g ev ms lt fi ≤ 3 ^ 15 := by
  unfold gF; split
  · exact gW_le b g ev ms fi lt (by omega)
  · omega
def gAll (b : Nat → Nat → Int32) (g : Nat → Int32) (ev ms : Nat) (lt : Bool) : Nat → Nat → Nat
  | 0, _ => 0
  | k + 1, fi => gF b g ev ms lt fi + gAll b g ev ms lt k (fi + 1)
theorem gAll_c {b b2 : Nat → Nat → Int32} {g g2 : Nat → Int32} (h : ∀ i, i ≤ 6 → b2 i = b i) (h2 : g2 2 = g 2) (h3 : g2 3 = g 3) (ev ms : Nat) (lt : Bool) : ∀ k fi, gAll b2 g2 ev ms lt k fi = gAll b g ev ms lt k fi := by
  intro k
  induction k with
  | zero => intro fi; rfl
  | succ k ih => intro fi; rw [gAll, gAll, gF_c h h2 h3, ih]
end
section
/-! THE REFERENCE: all, count, latest -/
set_option maxHeartbeats 4000000 in
set_option maxRecDepth 100000 in
theorem lM_all (l : Launch) (dC : Nat → ClassId) (dI : Nat → Nat → Nat) (r : Nat → Nat) (cI cZ cG : ClassId) (b : Nat → Nat → Int32) (g : Nat → Int32) {p : Program} {e : Env} {s : State} {m : MethodId} {args : Array Value} {below : List Frame} {meth : Method} {c : Code} {Q : State → Prop} {A : Nat → Prop} (ev ms : Nat) (lt : Bool) (hev : ev ≤ 400) (hg1 : g 1 = nI ev) (h0 : 1 ≤ ms) (hm : ms ≤ 5) (hg4 : g 4 = nI ms) {cells slots : Nat} (hcs : cells ≤ 0 ∧ slots ≤ 0) (hx : p.tables.exec = Jvm.exec) (hb : c.code = cM_all) (hml : c.maxLocals = 4) (hown : s.vm.findClass "EventPatternsModel" = some m.cls) (hbw : ∀ w ∈ bw, w.before args s = true) (hK : va_K (dC, dI) cls2 (xt cI cZ cG) s) (hA : ∀ q : Nat, s.heap.size ≤ q → A q) :
    ∀ (k fi A0 : Nat) (y : Nat → Int32) (H : Heap) (locs : List Loc) (ls : Array Slot), fi + k = ev → ev - 16 ≤ fi → lv_has ls 4 [(3, .int (nI fi)), (2, .int (nI A0)), (0, .ref (r 0)), (1, .int (bI lt))] → va_P (dC, dI) cls2 (mw r cI cZ (va_up b 7 (y)) g) H → va_D A (mw r cI cZ (va_up b 7 (y)) g) → va_S A s.heap H locs →
      (∀ (y : Nat → Int32) (H : Heap) (locs : List Loc) (ls : Array Slot), lv_has ls 4 [(2, .int (nI (A0 + gAll b g ev ms lt k fi))), (0, .ref (r 0)), (1, .int (bI lt))] → va_P (dC, dI) cls2 (mw r cI cZ (va_up b 7 (y)) g) H → va_D A (mw r cI cZ (va_up b 7 (y)) g) → va_S A s.heap H locs → W p l e ({ frames := 2, cells := 0, slots := 0, locals := 57 }) s m args below meth c H locs cells slots Q (F0 m 47 ls [])) → W p l e ({ frames := 2, cells := 0, slots := 0, locals := 57 }) s m args below meth c H locs cells slots Q (F0 m 7 ls []) := by
  intro k
  induction k using Nat.strongRecOn with
  | ind k ih =>
    intro fi A0 y H locs ls hk hfi hl hP hD hS kk
    refine lv_iload_n hx hb dM_all_7 rfl (lv_at hl 0 rfl) ?_
    refine lv_aload_n hx hb dM_all_8 rfl (lv_at hl 2 rfl) ?_
    refine va_get (D := (dC, dI)) (ci := 1) (v := .int (nI (ev))) (C := "EventPatternsModel") (T := TM) (N := 16) hx hb hbw inM hown hK hP 0 rfl rfl 1 (by decide) (hbw _ kf_M_45) (fun _ h9 => h9) (congrArg (fun z => some (Value.int z)) (hg1)) dM_all_9 ?_
    refine nr_icmp_ge (tgt := 47) hx hb (a1 := fi) (b1 := ev) (by omega) (by omega) dM_all_12 (by decide) (fun c_12 => ?_) (fun c_12 => ?_)
    · obtain rfl : k = 0 := by omega
      exact kk y H locs ls (lv_sub hl [1, 2, 3] rfl) hP hD hS
    · refine lv_aload_n hx hb dM_all_15 rfl (lv_at hl 2 rfl) ?_
      refine lv_iload_n hx hb dM_all_16 rfl (lv_at hl 0 rfl) ?_
      refine lv_iconst (v := 0) hx hb dM_all_17 (by decide) ?_
      refine lv_iconst (v := (-1)) hx hb dM_all_18 (by decide) ?_
      refine lv_iload_n hx hb dM_all_19 rfl (lv_at hl 0 rfl) ?_
      refine vp_callSi (W.runV (As := [.int (nI (fi)), .int (0), .int ((-1)), .int (nI (fi))]) (rest := []) ⟨hx, hb, hml, hown, hbw⟩ (tM_fits0 l dC dI r cI cZ cG (va_up b 7 (y)) (g) (fi) (0) (fi) (by omega) (by omega) (by omega)) (cwV 4 hbw (bw_V km_M_70 ki_yM_fits ksel_yM_fits ki_EventPatternsModel kcM_fits) rfl rfl rfl (by decide +kernel) ⟨Nat.le_of_ble_eq_true rfl, Nat.le_of_ble_eq_true rfl⟩) ⟨fun a U g mk q => by obtain ⟨q0, qP, qK⟩ := q; exact ⟨q0, qP, va_K.moved (u := U) (U := U.calling g mk a) (Vm.Alike.refl U.vm) qK⟩, va_recv hK hP (ci := 1) (q0 := 0) rfl rfl, fun U hU hW => ⟨rfl, by rw [hU]; exact hP, va_K.moved hW.alike hK⟩⟩ rfl rfl hl.1 rfl (lv_room (Nat.le_of_ble_eq_true rfl)) dM_all_20 ⟨hcs.1, hcs.2⟩) (fun r_20 hq => ?_)
      have hq : r_20 = bI (mFit0 b g (fi) (0) (fi)) := hq
      subst hq
      refine nr_ifb_eq (tgt := 39) hx hb (b := (mFit0 b g (fi) (0) (fi))) dM_all_23 (by decide) (fun c_23 => ?_) (fun c_23 => ?_)
      · refine lv_iload_n hx hb dM_all_39 rfl (lv_at hl 1 rfl) ?_
        refine lv_istore_n (lv' := [(2, .int (nI (A0))), (3, .int (nI (fi))), (0, .ref (r 0)), (1, .int (bI (lt)))]) hx hb dM_all_40 rfl hl (by decide) rfl (fun ls hl => ?_)
        refine lv_iinc (v := nI (fi + 1)) (lv' := [(3, .int (nI (fi + 1))), (2, .int (nI (A0))), (0, .ref (r 0)), (1, .int (bI (lt)))]) hx hb dM_all_41 hl (k := 1) rfl (nI_1 _) (by decide) rfl (fun ls hl => ?_)
        refine lv_goto (tgt := 7) hx hb dM_all_44 (by decide) ?_
        obtain ⟨k1, rfl⟩ : ∃ k1, k = k1 + 1 := ⟨k - 1, by omega⟩
        have eF : A0 = A0 + gF b g ev ms lt fi := by unfold gF; first | rw [if_pos c_23] | rw [if_neg (by rw [c_23]; decide), Nat.add_zero]
        rw [eF] at hl
        exact ih k1 (by omega) (fi + 1) _ _ _ _ ls (by omega) (by omega) (lv_sub hl [0, 1, 2, 3] rfl) hP hD hS (fun y H locs ls hl hP hD hS => kk y H locs ls (by rw [gAll, ← Nat.add_assoc]; exact hl) hP hD hS)
      · refine lv_iload_n hx hb dM_all_26 rfl (lv_at hl 1 rfl) ?_
        refine lv_aload_n hx hb dM_all_27 rfl (lv_at hl 2 rfl) ?_
        refine lv_iload_n hx hb dM_all_28 rfl (lv_at hl 0 rfl) ?_
        refine lv_iload_n hx hb dM_all_29 rfl (lv_at hl 0 rfl) ?_
        refine lv_iconst (v := 0) hx hb dM_all_30 (by decide) ?_
        refine lv_iload_n hx hb dM_all_31 rfl (lv_at hl 3 rfl) ?_
        have hFc := va_free (wc := mw r cI cZ (va_up b 7 (y)) (g)) hD hS hA (List.range 11) rfl
        refine va_calli (va_runV (As := [.int (nI (fi)), .int (nI (fi)), .int (0), .int (bI (lt))]) (rest := [.int (nI (A0))]) ⟨hx, hb, hml, hown, hbw⟩ (tM_waysFrom l dC dI r cI cZ cG (va_up b 7 (y)) (g) H.size ev ms (fi) (fi) (0) (lt) hev hg1 h0 hm hg4 (by omega) (by omega) (by omega) (by omega)) (cwV 4 hbw (bw_V km_M_74 ki_yM_waysFrom ksel_yM_waysFrom ki_EventPatternsModel kcM_waysFrom) rfl rfl rfl (by decide +kernel) ⟨Nat.le_of_ble_eq_true rfl, Nat.le_of_ble_eq_true rfl⟩) ⟨fun a U g mk q => by obtain ⟨q0, q1, qP, qK, qD⟩ := q; exact ⟨q0, q1, qP, va_K.moved (u := U) (U := U.calling g mk a) (Vm.Alike.refl U.vm) qK, qD⟩, va_recv hK hP (ci := 1) (q0 := 0) rfl rfl, fun U hU hW => ⟨rfl, by rw [hU], by rw [hU]; exact hP, va_K.moved hW.alike hK, hD.weaken (fun _ _ _ _ => trivial)⟩⟩ rfl rfl hl.1 rfl (lv_room (Nat.le_of_ble_eq_true rfl)) dM_all_32 ⟨hcs.1, hcs.2⟩) hS (fun q _ h => hFc q h) hFc (fun r_32 u t H1 locs ht hvm hq hB hz1 hk1 hS => ?_)
        obtain ⟨yz, y2, hyz, hq1, hq⟩ := hq
        rw [mWays hm (by omega) (by omega) (by omega) hyz, gW_c up7 rfl rfl] at hq1
        subst hq1
        obtain rfl := hq
        obtain ⟨hP1, hK1, hD1⟩ := hB
        rw [ht] at hP1
        have hP : va_P (dC, dI) cls2 (mw r cI cZ (va_up b 7 (y2)) (g)) H1 := hP1
        have hD : va_D A (mw r cI cZ (va_up b 7 (y2)) (g)) := hD1.weaken (fun _ _ _ h => hFc _ h)
        generalize H1 = H at hP hS ⊢
        refine nr_iadd hx hb (a1 := A0) (b1 := gW b g ev ms (fi) (lt) ((fi) - (ev - 16)) (0)) dM_all_35 ?_
        refine lv_goto (tgt := 40) hx hb dM_all_36 (by decide) ?_
        refine lv_istore_n (lv' := [(2, .int (nI (A0 + (gW b g ev ms (fi) (lt) ((fi) - (ev - 16)) (0))))), (3, .int (nI (fi))), (0, .ref (r 0)), (1, .int (bI (lt)))]) hx hb dM_all_40 rfl hl (by decide) rfl (fun ls hl => ?_)
        refine lv_iinc (v := nI (fi + 1)) (lv' := [(3, .int (nI (fi + 1))), (2, .int (nI (A0 + (gW b g ev ms (fi) (lt) ((fi) - (ev - 16)) (0))))), (0, .ref (r 0)), (1, .int (bI (lt)))]) hx hb dM_all_41 hl (k := 1) rfl (nI_1 _) (by decide) rfl (fun ls hl => ?_)
        refine lv_goto (tgt := 7) hx hb dM_all_44 (by decide) ?_
        obtain ⟨k1, rfl⟩ : ∃ k1, k = k1 + 1 := ⟨k - 1, by omega⟩
        have eF : A0 + (gW b g ev ms (fi) (lt) ((fi) - (ev - 16)) (0)) = A0 + gF b g ev ms lt fi := by unfold gF; first | rw [if_pos c_23] | rw [if_neg (by rw [c_23]; decide), Nat.add_zero]
        rw [eF] at hl
        exact ih k1 (by omega) (fi + 1) _ _ _ _ ls (by omega) (by omega) (lv_sub hl [0, 1, 2, 3] rfl) hP hD hS (fun y H locs ls hl hP hD hS => kk y H locs ls (by rw [gAll, ← Nat.add_assoc]; exact hl) hP hD hS)
set_option maxHeartbeats 4000000 in
set_option maxRecDepth 100000 in
/-- all(latest) -/
theorem tM_all (l : Launch) (dC : Nat → ClassId) (dI : Nat → Nat → Nat) (r : Nat → Nat) (cI cZ cG : ClassId) (b : Nat → Nat → Int32) (g : Nat → Int32) (sz : Nat) (ev ms : Nat) (lt : Bool) (hev : ev ≤ 400) (hg1 : g 1 = nI ev) (h0 : 1 ≤ ms) (hm : ms ≤ 5) (hg4 : g 4 = nI ms)  : Met l yM_all wM_all ({ frames := 2, cells := 0, slots := 0, locals := 57 }) (va_Pc [.ref (r 0), .int (bI (lt))] (fun U => U.heap.size = sz ∧ va_P (dC, dI) cls2 (mw r cI cZ b g) U.heap ∧ va_K (dC, dI) cls2 (xt cI cZ cG) U ∧ va_D (fun _ => True) (mw r cI cZ b g))) (va_Qi (fun (r0 : Int32) (u : MS) => r0 = nI (gAll b g ev ms lt (ev - (ev - 16)) (ev - 16)) ∧ ∃ y : Nat → Int32, u = (va_up b 7 y, g)) (atM dC dI r cI cZ cG (va_A (mw r cI cZ b g) sz)) (va_A (mw r cI cZ b g) sz)) 0 0 (va_A (mw r cI cZ b g) sz) := by
  refine Met.ofW (cc := cM_all) (maxL := 4) (ret := (some .int)) (by decide) rfl ?_
  intro p e s m args below meth c s₁ B hml hv
  obtain ⟨rfl, hsz, hP, hK, hD0⟩ := hv
  have hx := B.exec
  have hb := B.bytes
  have hr := B.returns
  have hbw : ∀ w ∈ bw, w.before _ s = true := fun w h => atoms_spec (ws := wM_all) B.pre w (List.mem_cons_of_mem _ h)
  have hown : s.vm.findClass "EventPatternsModel" = some m.cls := findClass_of_methodNamed B.named
  have hlocks := B.notSynchronized
  subst hsz
  have hD := hD0.self (sz := s.heap.size)
  generalize hAe : va_A (mw r cI cZ b g) s.heap.size = A at hD ⊢
  have hA : ∀ q : Nat, s.heap.size ≤ q → A q := fun q h => by rw [← hAe]; exact Or.inr h
  have hS : va_S A s.heap s.heap [] := va_S.rf
  have hl := lv_entry ([.ref (r 0), .int (bI (lt))]) (n := 4) (Nat.le_of_ble_eq_true rfl)
  rw [lg_entry_eq]
  generalize (lg_sl ([.ref (r 0), .int (bI (lt))]) ++ List.replicate (4 - (lg_sl ([.ref (r 0), .int (bI (lt))])).length) Slot.unset).toArray = ls at hl ⊢
  have hl : lv_has ls 4 [(0, .ref (r 0)), (1, .int (bI (lt)))] := hl
  refine lv_iconst (v := 0) hx hb dM_all_0 (by decide) ?_
  refine lv_istore_n (lv' := [(2, .int (0)), (0, .ref (r 0)), (1, .int (bI (lt)))]) hx hb dM_all_1 rfl hl (by decide) rfl (fun ls hl => ?_)
  refine lv_aload_n hx hb dM_all_2 rfl (lv_at hl 1 rfl) ?_
  refine vp_callSi (W.runV (As := []) (rest := []) ⟨hx, hb, hml, hown, hbw⟩ (tM_from l dC dI r cI cZ cG b g ev hev hg1) (cwV 0 hbw (bw_V km_M_66 ki_yM_from ksel_yM_from ki_EventPatternsModel kcM_from) rfl rfl rfl (by decide +kernel) ⟨Nat.le_of_ble_eq_true rfl, Nat.le_of_ble_eq_true rfl⟩) ⟨fun a U g mk q => by obtain ⟨q0, qP, qK⟩ := q; exact ⟨q0, qP, va_K.moved (u := U) (U := U.calling g mk a) (Vm.Alike.refl U.vm) qK⟩, va_recv hK hP (ci := 1) (q0 := 0) rfl rfl, fun U hU hW => ⟨rfl, by rw [hU]; exact hP, va_K.moved hW.alike hK⟩⟩ rfl rfl hl.1 rfl (lv_room (Nat.le_of_ble_eq_true rfl)) dM_all_3 ⟨Nat.le_of_ble_eq_true rfl, Nat.le_of_ble_eq_true rfl⟩) (fun r_3 hq => ?_)
  subst hq
  refine lv_istore_n (lv' := [(3, .int (nI (ev - 16))), (2, .int (0)), (0, .ref (r 0)), (1, .int (bI (lt)))]) hx hb dM_all_6 rfl hl (by decide) rfl (fun ls hl => ?_)
  have hP : va_P (dC, dI) cls2 (mw r cI cZ (va_up b 7 (b 7)) g) s.heap := hP
  have hD : va_D A (mw r cI cZ (va_up b 7 (b 7)) g) := hD
  refine lM_all l dC dI r cI cZ cG b g ev ms lt hev hg1 h0 hm hg4 ⟨Nat.le_refl _, Nat.le_refl _⟩ hx hb hml hown hbw hK hA (ev - (ev - 16)) (ev - 16) 0 (b 7) s.heap [] ls (by omega) (by omega) (lv_sub hl [0, 1, 2, 3] rfl) hP hD hS (fun y H locs ls hl hP hD hS => ?_)
  refine lv_iload_n hx hb dM_all_47 rfl (lv_at hl 0 rfl) ?_
  exact W.iret (v := nI (0 + gAll b g ev ms lt (ev - (ev - 16)) (ev - 16))) hx hb hr (fun t ht hW => ⟨⟨nI (0 + gAll b g ev ms lt (ev - (ev - 16)) (ev - 16)), (va_up b 7 y, g), rfl, ⟨by rw [Nat.zero_add], y, rfl⟩, by rw [ht]; exact hP, va_K.moved hW.alike hK, hD⟩, hS.F ht⟩) hS.2.2 dM_all_48
set_option maxHeartbeats 4000000 in
set_option maxRecDepth 100000 in
/-- count() -/
theorem tM_count (l : Launch) (dC : Nat → ClassId) (dI : Nat → Nat → Nat) (r : Nat → Nat) (cI cZ cG : ClassId) (b : Nat → Nat → Int32) (g : Nat → Int32) (sz : Nat) (ev ms : Nat) (hev : ev ≤ 400) (hg1 : g 1 = nI ev) (hm : ms ≤ 5) (hg4 : g 4 = nI ms)  : Met l yM_count wM_count ({ frames := 3, cells := 0, slots := 0, locals := 80 }) (va_Pc [.ref (r 0)] (fun U => U.heap.size = sz ∧ va_P (dC, dI) cls2 (mw r cI cZ b g) U.heap ∧ va_K (dC, dI) cls2 (xt cI cZ cG) U ∧ va_D (fun _ => True) (mw r cI cZ b g))) (va_Qi (fun (r0 : Int32) (u : MS) => (ms = 0 → u = (b, va_up g 0 (nI 1))) ∧ (1 ≤ ms → r0 = nI (gAll b g ev ms false (ev - (ev - 16)) (ev - 16)) ∧ ∃ y : Nat → Int32, u = (va_up b 7 y, va_up g 0 (nI 0)))) (atM dC dI r cI cZ cG (va_A (mw r cI cZ b g) sz)) (va_A (mw r cI cZ b g) sz)) 0 0 (va_A (mw r cI cZ b g) sz) := by
  refine Met.ofW (cc := cM_count) (maxL := 1) (ret := (some .int)) (by decide) rfl ?_
  intro p e s m args below meth c s₁ B hml hv
  obtain ⟨rfl, hsz, hP, hK, hD0⟩ := hv
  have hx := B.exec
  have hb := B.bytes
  have hr := B.returns
  have hbw : ∀ w ∈ bw, w.before _ s = true := fun w h => atoms_spec (ws := wM_count) B.pre w (List.mem_cons_of_mem _ h)
  have hown : s.vm.findClass "EventPatternsModel" = some m.cls := findClass_of_methodNamed B.named
  have hlocks := B.notSynchronized
  subst hsz
  have hD := hD0.self (sz := s.heap.size)
  generalize hAe : va_A (mw r cI cZ b g) s.heap.size = A at hD ⊢
  have hA : ∀ q : Nat, s.heap.size ≤ q → A q := fun q h => by rw [← hAe]; exact Or.inr h
  have hS : va_S A s.heap s.heap [] := va_S.rf
  have hl := lv_entry ([.ref (r 0)]) (n := 1) (Nat.le_of_ble_eq_true rfl)
  rw [lg_entry_eq]
  generalize (lg_sl ([.ref (r 0)]) ++ List.replicate (1 - (lg_sl ([.ref (r 0)])).length) Slot.unset).toArray = ls at hl ⊢
  have hl : lv_has ls 1 [(0, .ref (r 0))] := hl
  refine lv_aload_n hx hb dM_count_0 rfl (lv_at hl 0 rfl) ?_
  refine lv_aload_n hx hb dM_count_1 rfl (lv_at hl 0 rfl) ?_
  refine va_get (D := (dC, dI)) (ci := 1) (v := .int (nI (ms))) (C := "EventPatternsModel") (T := TM) (N := 16) hx hb hbw inM hown hK hP 0 rfl rfl 7 (by decide) (hbw _ kf_M_63) (fun _ h9 => h9) (congrArg (fun z => some (Value.int z)) (hg4)) dM_count_2 ?_
  refine nr_if_ne (tgt := 12) hx hb (a1 := ms) (by omega) dM_count_5 (by decide) (fun c_5 => ?_) (fun c_5 => ?_)
  · refine lv_iconst (v := 0) hx hb dM_count_12 (by decide) ?_
    refine lv_iconst (v := 0) hx hb dM_count_13 (by decide) ?_
    refine lv_iconst (v := 0) hx hb dM_count_14 (by decide) ?_
    have hFc := va_free (wc := mw r cI cZ (b) (g)) hD hS hA (List.range 11) rfl
    refine va_calli (va_runV (As := [.int (0), .int (0), .int (0)]) (rest := []) ⟨hx, hb, hml, hown, hbw⟩ (tM_refuse l dC dI r cI cZ cG (b) (g) s.heap.size false false false) (cwV 3 hbw (bw_V km_M_53 ki_yM_refuse ksel_yM_refuse ki_EventPatternsModel kcM_refuse) rfl rfl rfl (by decide +kernel) ⟨Nat.le_of_ble_eq_true rfl, Nat.le_of_ble_eq_true rfl⟩) ⟨fun a U g mk q => by obtain ⟨q0, q1, qP, qK, qD⟩ := q; exact ⟨q0, q1, qP, va_K.moved (u := U) (U := U.calling g mk a) (Vm.Alike.refl U.vm) qK, qD⟩, va_recv hK hP (ci := 1) (q0 := 0) rfl rfl, fun U hU hW => ⟨rfl, by rw [hU], by rw [hU]; exact hP, va_K.moved hW.alike hK, hD.weaken (fun _ _ _ _ => trivial)⟩⟩ rfl rfl hl.1 rfl (lv_room (Nat.le_of_ble_eq_true rfl)) dM_count_15 ⟨Nat.le_of_ble_eq_true rfl, Nat.le_of_ble_eq_true rfl⟩) hS (fun q _ h => hFc q h) hFc (fun r_15 u t H1 locs ht hvm hq hB hz1 hk1 hS => ?_)
    obtain ⟨hq1, hq⟩ := hq
    have hq1 : r_15 = 0 := hq1
    subst hq1
    obtain rfl := hq
    obtain ⟨hP1, hK1, hD1⟩ := hB
    rw [ht] at hP1
    have hP : va_P (dC, dI) cls2 (mw r cI cZ (b) (va_up (g) 0 (nI (mTh false false false)))) H1 := hP1
    have hD : va_D A (mw r cI cZ (b) (va_up (g) 0 (nI (mTh false false false)))) := hD1.weaken (fun _ _ _ h => hFc _ h)
    generalize H1 = H at hP hS ⊢
    refine lv_if_eq (tgt := 25) hx hb dM_count_18 (by decide) (fun _ => ?_) (fun c9 => absurd c9 (by decide))
    refine lv_aload_n hx hb dM_count_25 rfl (lv_at hl 0 rfl) ?_
    refine lv_iconst (v := 0) hx hb dM_count_26 (by decide) ?_
    have hFc := va_free (wc := mw r cI cZ (b) (va_up (g) 0 (nI (mTh false false false)))) hD hS hA (List.range 11) rfl
    refine va_calli (va_runV (As := [.int (0)]) (rest := []) ⟨hx, hb, hml, hown, hbw⟩ (tM_all l dC dI r cI cZ cG (b) (va_up (g) 0 (nI (mTh false false false))) H.size ev ms false hev hg1 (by omega) hm hg4) (cwV 1 hbw (bw_V km_M_78 ki_yM_all ksel_yM_all ki_EventPatternsModel kcM_all) rfl rfl rfl (by decide +kernel) ⟨Nat.le_of_ble_eq_true rfl, Nat.le_of_ble_eq_true rfl⟩) ⟨fun a U g mk q => by obtain ⟨q0, q1, qP, qK, qD⟩ := q; exact ⟨q0, q1, qP, va_K.moved (u := U) (U := U.calling g mk a) (Vm.Alike.refl U.vm) qK, qD⟩, va_recv hK hP (ci := 1) (q0 := 0) rfl rfl, fun U hU hW => ⟨rfl, by rw [hU], by rw [hU]; exact hP, va_K.moved hW.alike hK, hD.weaken (fun _ _ _ _ => trivial)⟩⟩ rfl rfl hl.1 rfl (lv_room (Nat.le_of_ble_eq_true rfl)) dM_count_27 ⟨Nat.le_of_ble_eq_true rfl, Nat.le_of_ble_eq_true rfl⟩) hS (fun q _ h => hFc q h) hFc (fun r_27 u t H1 locs ht hvm hq hB hz1 hk1 hS => ?_)
    obtain ⟨hq1, y, hq⟩ := hq
    rw [gAll_c (b := b) (b2 := b) (g := g) (g2 := va_up (g) 0 (nI (mTh false false false))) (fun _ _ => rfl) rfl rfl] at hq1
    subst hq1
    obtain rfl := hq
    obtain ⟨hP1, hK1, hD1⟩ := hB
    rw [ht] at hP1
    have hP : va_P (dC, dI) cls2 (mw r cI cZ (va_up b 7 y) (va_up (g) 0 (nI (mTh false false false)))) H1 := hP1
    have hD : va_D A (mw r cI cZ (va_up b 7 y) (va_up (g) 0 (nI (mTh false false false)))) := hD1.weaken (fun _ _ _ h => hFc _ h)
    generalize H1 = H at hP hS ⊢
    exact W.iret (v := nI (gAll b g ev ms false (ev - (ev - 16)) (ev - 16))) hx hb hr (fun t ht hW => ⟨⟨nI (gAll b g ev ms false (ev - (ev - 16)) (ev - 16)), (va_up b 7 y, va_up g 0 (nI 0)), rfl, ⟨fun h9 => absurd h9 (by omega), fun _ => ⟨rfl, y, rfl⟩⟩, by rw [ht]; exact hP, va_K.moved hW.alike hK, hD⟩, hS.F ht⟩) hS.2.2 dM_count_30
  · refine lv_iconst (v := 1) hx hb dM_count_8 (by decide) ?_
    refine lv_goto (tgt := 13) hx hb dM_count_9 (by decide) ?_
    refine lv_iconst (v := 0) hx hb dM_count_13 (by decide) ?_
    refine lv_iconst (v := 0) hx hb dM_count_14 (by decide) ?_
    have hFc := va_free (wc := mw r cI cZ (b) (g)) hD hS hA (List.range 11) rfl
    refine va_calli (va_runV (As := [.int (1), .int (0), .int (0)]) (rest := []) ⟨hx, hb, hml, hown, hbw⟩ (tM_refuse l dC dI r cI cZ cG (b) (g) s.heap.size true false false) (cwV 3 hbw (bw_V km_M_53 ki_yM_refuse ksel_yM_refuse ki_EventPatternsModel kcM_refuse) rfl rfl rfl (by decide +kernel) ⟨Nat.le_of_ble_eq_true rfl, Nat.le_of_ble_eq_true rfl⟩) ⟨fun a U g mk q => by obtain ⟨q0, q1, qP, qK, qD⟩ := q; exact ⟨q0, q1, qP, va_K.moved (u := U) (U := U.calling g mk a) (Vm.Alike.refl U.vm) qK, qD⟩, va_recv hK hP (ci := 1) (q0 := 0) rfl rfl, fun U hU hW => ⟨rfl, by rw [hU], by rw [hU]; exact hP, va_K.moved hW.alike hK, hD.weaken (fun _ _ _ _ => trivial)⟩⟩ rfl rfl hl.1 rfl (lv_room (Nat.le_of_ble_eq_true rfl)) dM_count_15 ⟨Nat.le_of_ble_eq_true rfl, Nat.le_of_ble_eq_true rfl⟩) hS (fun q _ h => hFc q h) hFc (fun r_15 u t H1 locs ht hvm hq hB hz1 hk1 hS => ?_)
    obtain ⟨hq1, hq⟩ := hq
    have hq1 : r_15 = 1 := hq1
    subst hq1
    obtain rfl := hq
    obtain ⟨hP1, hK1, hD1⟩ := hB
    rw [ht] at hP1
    have hP : va_P (dC, dI) cls2 (mw r cI cZ (b) (va_up (g) 0 (nI (mTh true false false)))) H1 := hP1
    have hD : va_D A (mw r cI cZ (b) (va_up (g) 0 (nI (mTh true false false)))) := hD1.weaken (fun _ _ _ h => hFc _ h)
    generalize H1 = H at hP hS ⊢
    refine lv_if_eq (tgt := 25) hx hb dM_count_18 (by decide) (fun c9 => absurd c9 (by decide)) (fun _ => ?_)
    refine lv_iconst (v := 0) hx hb dM_count_21 (by decide) ?_
    refine lv_goto (tgt := 30) hx hb dM_count_22 (by decide) ?_
    exact W.iret (v := 0) hx hb hr (fun t ht hW => ⟨⟨0, (b, va_up g 0 (nI 1)), rfl, ⟨fun _ => rfl, fun h9 => absurd h9 (by omega)⟩, by rw [ht]; exact hP, va_K.moved hW.alike hK, hD⟩, hS.F ht⟩) hS.2.2 dM_count_30
set_option maxHeartbeats 4000000 in
set_option maxRecDepth 100000 in
/-- latest() -/
theorem tM_latest (l : Launch) (dC : Nat → ClassId) (dI : Nat → Nat → Nat) (r : Nat → Nat) (cI cZ cG : ClassId) (b : Nat → Nat → Int32) (g : Nat → Int32) (sz : Nat) (ev ms : Nat) (hev : ev ≤ 400) (hg1 : g 1 = nI ev) (hm : ms ≤ 5) (hg4 : g 4 = nI ms)  : Met l yM_latest wM_latest ({ frames := 3, cells := 0, slots := 0, locals := 80 }) (va_Pc [.ref (r 0)] (fun U => U.heap.size = sz ∧ va_P (dC, dI) cls2 (mw r cI cZ b g) U.heap ∧ va_K (dC, dI) cls2 (xt cI cZ cG) U ∧ va_D (fun _ => True) (mw r cI cZ b g))) (va_Qi (fun (r0 : Int32) (u : MS) => (ms = 0 → u = (b, va_up g 0 (nI 1))) ∧ (1 ≤ ms → r0 = nI (gAll b g ev ms true (ev - (ev - 16)) (ev - 16)) ∧ ∃ y : Nat → Int32, u = (va_up b 7 y, va_up g 0 (nI 0)))) (atM dC dI r cI cZ cG (va_A (mw r cI cZ b g) sz)) (va_A (mw r cI cZ b g) sz)) 0 0 (va_A (mw r cI cZ b g) sz) := by
  refine Met.ofW (cc := cM_latest) (maxL := 1) (ret := (some .int)) (by decide) rfl ?_
  intro p e s m args below meth c s₁ B hml hv
  obtain ⟨rfl, hsz, hP, hK, hD0⟩ := hv
  have hx := B.exec
  have hb := B.bytes
  have hr := B.returns
  have hbw : ∀ w ∈ bw, w.before _ s = true := fun w h => atoms_spec (ws := wM_latest) B.pre w (List.mem_cons_of_mem _ h)
  have hown : s.vm.findClass "EventPatternsModel" = some m.cls := findClass_of_methodNamed B.named
  have hlocks := B.notSynchronized
  subst hsz
  have hD := hD0.self (sz := s.heap.size)
  generalize hAe : va_A (mw r cI cZ b g) s.heap.size = A at hD ⊢
  have hA : ∀ q : Nat, s.heap.size ≤ q → A q := fun q h => by rw [← hAe]; exact Or.inr h
  have hS : va_S A s.heap s.heap [] := va_S.rf
  have hl := lv_entry ([.ref (r 0)]) (n := 1) (Nat.le_of_ble_eq_true rfl)
  rw [lg_entry_eq]
  generalize (lg_sl ([.ref (r 0)]) ++ List.replicate (1 - (lg_sl ([.ref (r 0)])).length) Slot.unset).toArray = ls at hl ⊢
  have hl : lv_has ls 1 [(0, .ref (r 0))] := hl
  refine lv_aload_n hx hb dM_latest_0 rfl (lv_at hl 0 rfl) ?_
  refine lv_aload_n hx hb dM_latest_1 rfl (lv_at hl 0 rfl) ?_
  refine va_get (D := (dC, dI)) (ci := 1) (v := .int (nI (ms))) (C := "EventPatternsModel") (T := TM) (N := 16) hx hb hbw inM hown hK hP 0 rfl rfl 7 (by decide) (hbw _ kf_M_63) (fun _ h9 => h9) (congrArg (fun z => some (Value.int z)) (hg4)) dM_latest_2 ?_
  refine nr_if_ne (tgt := 12) hx hb (a1 := ms) (by omega) dM_latest_5 (by decide) (fun c_5 => ?_) (fun c_5 => ?_)
  · refine lv_iconst (v := 0) hx hb dM_latest_12 (by decide) ?_
    refine lv_iconst (v := 0) hx hb dM_latest_13 (by decide) ?_
    refine lv_iconst (v := 0) hx hb dM_latest_14 (by decide) ?_
    have hFc := va_free (wc := mw r cI cZ (b) (g)) hD hS hA (List.range 11) rfl
    refine va_calli (va_runV (As := [.int (0), .int (0), .int (0)]) (rest := []) ⟨hx, hb, hml, hown, hbw⟩ (tM_refuse l dC dI r cI cZ cG (b) (g) s.heap.size false false false) (cwV 3 hbw (bw_V km_M_53 ki_yM_refuse ksel_yM_refuse ki_EventPatternsModel kcM_refuse) rfl rfl rfl (by decide +kernel) ⟨Nat.le_of_ble_eq_true rfl, Nat.le_of_ble_eq_true rfl⟩) ⟨fun a U g mk q => by obtain ⟨q0, q1, qP, qK, qD⟩ := q; exact ⟨q0, q1, qP, va_K.moved (u := U) (U := U.calling g mk a) (Vm.Alike.refl U.vm) qK, qD⟩, va_recv hK hP (ci := 1) (q0 := 0) rfl rfl, fun U hU hW => ⟨rfl, by rw [hU], by rw [hU]; exact hP, va_K.moved hW.alike hK, hD.weaken (fun _ _ _ _ => trivial)⟩⟩ rfl rfl hl.1 rfl (lv_room (Nat.le_of_ble_eq_true rfl)) dM_latest_15 ⟨Nat.le_of_ble_eq_true rfl, Nat.le_of_ble_eq_true rfl⟩) hS (fun q _ h => hFc q h) hFc (fun r_15 u t H1 locs ht hvm hq hB hz1 hk1 hS => ?_)
    obtain ⟨hq1, hq⟩ := hq
    have hq1 : r_15 = 0 := hq1
    subst hq1
    obtain rfl := hq
    obtain ⟨hP1, hK1, hD1⟩ := hB
    rw [ht] at hP1
    have hP : va_P (dC, dI) cls2 (mw r cI cZ (b) (va_up (g) 0 (nI (mTh false false false)))) H1 := hP1
    have hD : va_D A (mw r cI cZ (b) (va_up (g) 0 (nI (mTh false false false)))) := hD1.weaken (fun _ _ _ h => hFc _ h)
    generalize H1 = H at hP hS ⊢
    refine lv_if_eq (tgt := 25) hx hb dM_latest_18 (by decide) (fun _ => ?_) (fun c9 => absurd c9 (by decide))
    refine lv_aload_n hx hb dM_latest_25 rfl (lv_at hl 0 rfl) ?_
    refine lv_iconst (v := 1) hx hb dM_latest_26 (by decide) ?_
    have hFc := va_free (wc := mw r cI cZ (b) (va_up (g) 0 (nI (mTh false false false)))) hD hS hA (List.range 11) rfl
    refine va_calli (va_runV (As := [.int (1)]) (rest := []) ⟨hx, hb, hml, hown, hbw⟩ (tM_all l dC dI r cI cZ cG (b) (va_up (g) 0 (nI (mTh false false false))) H.size ev ms true hev hg1 (by omega) hm hg4) (cwV 1 hbw (bw_V km_M_78 ki_yM_all ksel_yM_all ki_EventPatternsModel kcM_all) rfl rfl rfl (by decide +kernel) ⟨Nat.le_of_ble_eq_true rfl, Nat.le_of_ble_eq_true rfl⟩) ⟨fun a U g mk q => by obtain ⟨q0, q1, qP, qK, qD⟩ := q; exact ⟨q0, q1, qP, va_K.moved (u := U) (U := U.calling g mk a) (Vm.Alike.refl U.vm) qK, qD⟩, va_recv hK hP (ci := 1) (q0 := 0) rfl rfl, fun U hU hW => ⟨rfl, by rw [hU], by rw [hU]; exact hP, va_K.moved hW.alike hK, hD.weaken (fun _ _ _ _ => trivial)⟩⟩ rfl rfl hl.1 rfl (lv_room (Nat.le_of_ble_eq_true rfl)) dM_latest_27 ⟨Nat.le_of_ble_eq_true rfl, Nat.le_of_ble_eq_true rfl⟩) hS (fun q _ h => hFc q h) hFc (fun r_27 u t H1 locs ht hvm hq hB hz1 hk1 hS => ?_)
    obtain ⟨hq1, y, hq⟩ := hq
    rw [gAll_c (b := b) (b2 := b) (g := g) (g2 := va_up (g) 0 (nI (mTh false false false))) (fun _ _ => rfl) rfl rfl] at hq1
    subst hq1
    obtain rfl := hq
    obtain ⟨hP1, hK1, hD1⟩ := hB
    rw [ht] at hP1
    have hP : va_P (dC, dI) cls2 (mw r cI cZ (va_up b 7 y) (va_up (g) 0 (nI (mTh false false false)))) H1 := hP1
    have hD : va_D A (mw r cI cZ (va_up b 7 y) (va_up (g) 0 (nI (mTh false false false)))) := hD1.weaken (fun _ _ _ h => hFc _ h)
    generalize H1 = H at hP hS ⊢
    exact W.iret (v := nI (gAll b g ev ms true (ev - (ev - 16)) (ev - 16))) hx hb hr (fun t ht hW => ⟨⟨nI (gAll b g ev ms true (ev - (ev - 16)) (ev - 16)), (va_up b 7 y, va_up g 0 (nI 0)), rfl, ⟨fun h9 => absurd h9 (by omega), fun _ => ⟨rfl, y, rfl⟩⟩, by rw [ht]; exact hP, va_K.moved hW.alike hK, hD⟩, hS.F ht⟩) hS.2.2 dM_latest_30
  · refine lv_iconst (v := 1) hx hb dM_latest_8 (by decide) ?_
    refine lv_goto (tgt := 13) hx hb dM_latest_9 (by decide) ?_
    refine lv_iconst (v := 0) hx hb dM_latest_13 (by decide) ?_
    refine lv_iconst (v := 0) hx hb dM_latest_14 (by decide) ?_
    have hFc := va_free (wc := mw r cI cZ (b) (g)) hD hS hA (List.range 11) rfl
    refine va_calli (va_runV (As := [.int (1), .int (0), .int (0)]) (rest := []) ⟨hx, hb, hml, hown, hbw⟩ (tM_refuse l dC dI r cI cZ cG (b) (g) s.heap.size true false false) (cwV 3 hbw (bw_V km_M_53 ki_yM_refuse ksel_yM_refuse ki_EventPatternsModel kcM_refuse) rfl rfl rfl (by decide +kernel) ⟨Nat.le_of_ble_eq_true rfl, Nat.le_of_ble_eq_true rfl⟩) ⟨fun a U g mk q => by obtain ⟨q0, q1, qP, qK, qD⟩ := q; exact ⟨q0, q1, qP, va_K.moved (u := U) (U := U.calling g mk a) (Vm.Alike.refl U.vm) qK, qD⟩, va_recv hK hP (ci := 1) (q0 := 0) rfl rfl, fun U hU hW => ⟨rfl, by rw [hU], by rw [hU]; exact hP, va_K.moved hW.alike hK, hD.weaken (fun _ _ _ _ => trivial)⟩⟩ rfl rfl hl.1 rfl (lv_room (Nat.le_of_ble_eq_true rfl)) dM_latest_15 ⟨Nat.le_of_ble_eq_true rfl, Nat.le_of_ble_eq_true rfl⟩) hS (fun q _ h => hFc q h) hFc (fun r_15 u t H1 locs ht hvm hq hB hz1 hk1 hS => ?_)
    obtain ⟨hq1, hq⟩ := hq
    have hq1 : r_15 = 1 := hq1
    subst hq1
    obtain rfl := hq
    obtain ⟨hP1, hK1, hD1⟩ := hB
    rw [ht] at hP1
    have hP : va_P (dC, dI) cls2 (mw r cI cZ (b) (va_up (g) 0 (nI (mTh true false false)))) H1 := hP1
    have hD : va_D A (mw r cI cZ (b) (va_up (g) 0 (nI (mTh true false false)))) := hD1.weaken (fun _ _ _ h => hFc _ h)
    generalize H1 = H at hP hS ⊢
    refine lv_if_eq (tgt := 25) hx hb dM_latest_18 (by decide) (fun c9 => absurd c9 (by decide)) (fun _ => ?_)
    refine lv_iconst (v := 0) hx hb dM_latest_21 (by decide) ?_
    refine lv_goto (tgt := 30) hx hb dM_latest_22 (by decide) ?_
    exact W.iret (v := 0) hx hb hr (fun t ht hW => ⟨⟨0, (b, va_up g 0 (nI 1)), rfl, ⟨fun _ => rfl, fun h9 => absurd h9 (by omega)⟩, by rw [ht]; exact hP, va_K.moved hW.alike hK, hD⟩, hS.F ht⟩) hS.2.2 dM_latest_30
end
