/-! THE REFERENCE'S waysFrom IS THE BACKWARD COUNT -/
def vW (i : Nat) : Nat := 3 ^ (15 - i / 5)
theorem eN_le (x : Bool) : eN x ≤ 1 := by cases x <;> decide
/-- edges that go up by two neighbouring steps at most: what they weigh together -/
theorem vW_tail {E : Nat → Nat} {s : Nat} (hs : s < 5) (h1 : ∀ j, E j ≤ 1) (h2 : ∀ j, j % 5 ≠ s → j % 5 ≠ s + 1 → E j = 0) : ∀ k, k ≤ 16 → wsum E vW (5 * k) (5 * (16 - k)) + 1 ≤ 3 ^ k := by
  intro k
  induction k with
  | zero => intro _; show 0 + 1 ≤ 1; omega
  | succ k ih =>
    intro hk
    have hi := ih (by omega)
    have e := wsum_block (Y := E) (d := vW) (k := 5 * k) (p := 16 - (k + 1)) (s := s) hs (fun j a b c => h2 _ (by omega) (by omega))
    rw [show 5 * (k + 1) = 5 * k + 5 by omega, e, show 5 * (16 - (k + 1) + 1) = 5 * (16 - k) by omega]
    have v1 : ∀ j, j < 5 → vW (5 * (16 - (k + 1)) + j) = 3 ^ k := by
      intro j hj
      unfold vW
      rw [show 15 - (5 * (16 - (k + 1)) + j) / 5 = k by omega]
    have a1 : E (5 * (16 - (k + 1)) + s) * vW (5 * (16 - (k + 1)) + s) ≤ 3 ^ k := by
      rw [v1 s hs]
      exact Nat.le_trans (Nat.mul_le_mul_right _ (h1 _)) (by rw [Nat.one_mul]; exact Nat.le_refl _)
    have a2 : (if s + 1 < 5 then E (5 * (16 - (k + 1)) + (s + 1)) * vW (5 * (16 - (k + 1)) + (s + 1)) else 0) ≤ 3 ^ k := by
      split
      · rename_i h5
        rw [v1 (s + 1) h5]
        exact Nat.le_trans (Nat.mul_le_mul_right _ (h1 _)) (by rw [Nat.one_mul]; exact Nat.le_refl _)
      · exact Nat.zero_le _
    rw [Nat.pow_succ]
    omega
theorem vW_ok {E : Nat → Nat → Nat} (h1 : ∀ i j, E i j ≤ 1) (h2 : ∀ i j, j % 5 ≠ i % 5 → j % 5 ≠ i % 5 + 1 → E i j = 0) (h3 : ∀ i j, j / 5 ≤ i / 5 → E i j = 0) : ∀ i, i < 80 → wsum (E i) vW (79 - i) (i + 1) ≤ vW i := by
  intro i hi
  have t := vW_tail (E := E i) (s := i % 5) (by omega) (h1 i) (fun j a b => h2 i j a b) (15 - i / 5) (by omega)
  rw [show 79 - i = (5 * (i / 5 + 1) - (i + 1)) + 5 * (15 - i / 5) by omega, wsum_split, wsum_zero _ _ (fun j a b => h3 i j (by omega)), Nat.zero_add, show i + 1 + (5 * (i / 5 + 1) - (i + 1)) = 5 * (16 - (15 - i / 5)) by omega]
  have e9 : vW i = 3 ^ (15 - i / 5) := rfl
  omega
theorem gEn_1 (b : Nat → Nat → Int32) (g : Nat → Int32) (ev ms fi i j : Nat) : gEn b g ev ms fi i j ≤ 1 := eN_le _
theorem gE_f {b : Nat → Nat → Int32} {g : Nat → Int32} {ev ms fi i j : Nat} (h : gE b g ev ms fi i j = true) : i / 5 < j / 5 ∧ (ev - 16) + j / 5 < mEnd g ev ((ev - 16) + i / 5) ∧ i % 5 < ms ∧ j % 5 < ms ∧ (j % 5 = i % 5 ∨ j % 5 = i % 5 + 1) := by
  unfold gE at h
  simp only [Bool.and_eq_true, Bool.or_eq_true, decide_eq_true_eq] at h
  exact ⟨h.1, h.2.1, h.2.2.1, h.2.2.2.1, h.2.2.2.2.2.elim (fun q => Or.inl q.1) Or.inr⟩
theorem gEn_0 {b : Nat → Nat → Int32} {g : Nat → Int32} {ev ms fi i j : Nat} (h : ¬ gE b g ev ms fi i j = true) : gEn b g ev ms fi i j = 0 := by
  unfold gEn
  rw [Bool.not_eq_true] at h
  rw [h]; rfl
theorem gEn_ok (b : Nat → Nat → Int32) (g : Nat → Int32) (ev ms fi : Nat) : ∀ i, i < 80 → wsum (gEn b g ev ms fi i) vW (79 - i) (i + 1) ≤ vW i :=
  vW_ok (gEn_1 b g ev ms fi) (fun i j h1 h2 => gEn_0 (fun h => (gE_f h).2.2.2.2.elim h1 h2)) (fun i j h1 => gEn_0 (fun h => absurd (gE_f h).1 (by omega)))
theorem vW_pos (i : Nat) : 1 ≤ vW i := Nat.pos_of_ne_zero (by unfold vW; exact Nat.pos_iff_ne_zero.mp (Nat.pow_pos (by decide)))
theorem mEnd_le (g : Nat → Int32) (ev e1 : Nat) : mEnd g ev e1 ≤ ev := by unfold mEnd; split <;> omega
theorem fwA_one (E : Nat → Nat → Nat) (ba : Nat → Nat) {M i A : Nat} {Y : Nat → Nat} (hV : ∀ i, i < 80 → wsum (E i) vW (79 - i) (i + 1) ≤ vW i) (hi : i < 80) (hM : wsum Y vW (80 - i) i ≤ M) : wsum (fun j => Y j + Y i * E i j) vW (80 - (i + 1)) (i + 1) ≤ M :=
  fwA_small E ba vW M hV (fun i _ => vW_pos i) 1 i A Y (by omega) hM
theorem small_of {M i : Nat} {Y : Nat → Nat} (hi : i < 80) (hM : wsum Y vW (80 - i) i ≤ M) : Y i ≤ M := by
  have h := wsum_ge (Y := Y) (d := vW) (80 - i) i i (Nat.le_refl _) (by omega)
  have h2 := Nat.mul_le_mul_left (Y i) (vW_pos i)
  omega
theorem mWS_eq {b : Nat → Nat → Int32} {g : Nat → Int32} {ev ms fi e1 : Nat} {lt : Bool} {M : Nat} (hM31 : M < 2 ^ 31) (hms : ms ≤ 5) (hb : ev - 16 ≤ e1) (he : e1 < ev) : ∀ (k st A : Nat) (Y : Nat → Nat) (acc : Int32) (y : Nat → Int32), ms < st + k → st ≤ ms → acc = nI A → (∀ j, j < 80 → y j = nI (Y j)) → wsum Y vW (80 - (5 * (e1 - (ev - 16)) + st)) (5 * (e1 - (ev - 16)) + st) ≤ M →
    (mWS b g ev ms fi e1 (mEnd g ev e1) lt k st acc y).1 = nI (fwA (gEn b g ev ms fi) (gBa ev ms lt) (ms - st) (5 * (e1 - (ev - 16)) + st) A Y).1 ∧ (∀ j, j < 80 → (mWS b g ev ms fi e1 (mEnd g ev e1) lt k st acc y).2 j = nI ((fwA (gEn b g ev ms fi) (gBa ev ms lt) (ms - st) (5 * (e1 - (ev - 16)) + st) A Y).2 j)) ∧ wsum (fwA (gEn b g ev ms fi) (gBa ev ms lt) (ms - st) (5 * (e1 - (ev - 16)) + st) A Y).2 vW (80 - (5 * (e1 - (ev - 16)) + ms)) (5 * (e1 - (ev - 16)) + ms) ≤ M := by
  intro k
  induction k with
  | zero => intro st A Y acc y h1 h2; omega
  | succ k ih =>
    intro st A Y acc y h1 h2 ha hy hM
    by_cases hst : st < ms
    · have hi : 5 * (e1 - (ev - 16)) + st < 80 := by omega
      have hv : Y (5 * (e1 - (ev - 16)) + st) < 2 ^ 31 := Nat.lt_of_le_of_lt (small_of hi hM) hM31
      rw [mWS, if_pos hst, hy _ hi, show ms - st = (ms - (st + 1)) + 1 by omega, fwA]
      have hi1 : (5 * (e1 - (ev - 16)) + st) / 5 = e1 - (ev - 16) := by omega
      have hi2 : (5 * (e1 - (ev - 16)) + st) % 5 = st := by omega
      have r := ih (st + 1) (A + gBa ev ms lt (5 * (e1 - (ev - 16)) + st) * Y (5 * (e1 - (ev - 16)) + st)) (fun j => Y j + Y (5 * (e1 - (ev - 16)) + st) * gEn b g ev ms fi (5 * (e1 - (ev - 16)) + st) j) (mAcc ev ms e1 st lt acc (nI (Y (5 * (e1 - (ev - 16)) + st)))) (mWN b g ev ms fi e1 st (mEnd g ev e1) (nI (Y (5 * (e1 - (ev - 16)) + st))) (mEnd g ev e1 + 1) (e1 + 1) y) (by omega) (by omega) ?_ ?_ ?_
      · exact r
      · unfold mAcc gBa
        rw [hi1, hi2, show (ev - 16) + (e1 - (ev - 16)) = e1 by omega, ha]
        by_cases hc : st + 1 = ms ∧ (lt = false ∨ e1 + 1 = ev)
        · rw [if_pos hc, nI_add, decide_eq_true hc.1, Bool.true_and]
          have e : (!lt || decide (e1 + 1 = ev)) = true := by
            rcases hc.2 with h | h
            · rw [h]; rfl
            · rw [decide_eq_true h, Bool.or_true]
          rw [e]; show _ = nI (A + 1 * _); rw [Nat.one_mul]
        · rw [if_neg hc]
          have e : (decide (st + 1 = ms) && (!lt || decide (e1 + 1 = ev))) = false := by
            by_cases c1 : st + 1 = ms
            · by_cases c2 : e1 + 1 = ev
              · exact absurd ⟨c1, Or.inr c2⟩ hc
              · cases hl : lt with
                | false => exact absurd ⟨c1, Or.inl hl⟩ hc
                | true => rw [decide_eq_false c2]; simp
            · rw [decide_eq_false c1]; rfl
          rw [e]; show _ = nI (A + 0 * _); rw [Nat.zero_mul, Nat.add_zero]
      · intro j hj
        rw [mWN_eq hst hms hb hv (mEnd g ev e1 + 1) (e1 + 1) y (by omega) (by omega) j, hy j hj, nI_add]
        congr 2
        unfold gEn
        cases hg : gE b g ev ms fi (5 * (e1 - (ev - 16)) + st) j with
        | false => rfl
        | true =>
          have h9 := (gE_f hg).1
          rw [hi1] at h9
          rw [decide_eq_true (show e1 + 1 ≤ (ev - 16) + j / 5 by omega)]; rfl
      · exact fwA_one (gEn b g ev ms fi) (gBa ev ms lt) (A := A) (gEn_ok b g ev ms fi) hi hM
    · have e : st = ms := by omega
      subst e
      rw [mWS, if_neg hst, Nat.sub_self]
      exact ⟨ha, hy, hM⟩
theorem fwA_idle (E : Nat → Nat → Nat) (ba : Nat → Nat) : ∀ (k i A : Nat) (Y : Nat → Nat), (∀ j, i ≤ j → j < i + k → ba j = 0 ∧ ∀ z, E j z = 0) → fwA E ba k i A Y = (A, Y) := by
  intro k
  induction k with
  | zero => intro i A Y h; rfl
  | succ k ih =>
    intro i A Y h
    obtain ⟨h1, h2⟩ := h i (by omega) (by omega)
    have e : (fun j => Y j + Y i * E i j) = Y := funext fun j => by rw [h2 j, Nat.mul_zero, Nat.add_zero]
    rw [fwA, h1, Nat.zero_mul, Nat.add_zero, e]
    exact ih (i + 1) A Y (fun j a b => h j (by omega) (by omega))
theorem fwA_two (E : Nat → Nat → Nat) (ba : Nat → Nat) : ∀ (k m i A : Nat) (Y : Nat → Nat), fwA E ba (k + m) i A Y = fwA E ba m (i + k) (fwA E ba k i A Y).1 (fwA E ba k i A Y).2 := by
  intro k
  induction k with
  | zero => intro m i A Y; simp [fwA]
  | succ k ih =>
    intro m i A Y
    rw [show k + 1 + m = (k + m) + 1 by omega, fwA, fwA, ih m (i + 1), show i + 1 + k = i + (k + 1) by omega]
theorem fwA_step (b : Nat → Nat → Int32) (g : Nat → Int32) (ev ms fi : Nat) (lt : Bool) (hms : ms ≤ 5) (p A : Nat) (Y : Nat → Nat) : fwA (gEn b g ev ms fi) (gBa ev ms lt) 5 (5 * p) A Y = fwA (gEn b g ev ms fi) (gBa ev ms lt) ms (5 * p) A Y := by
  have e := fwA_two (gEn b g ev ms fi) (gBa ev ms lt) ms (5 - ms) (5 * p) A Y
  rw [show ms + (5 - ms) = 5 by omega] at e
  rw [e, fwA_idle]
  intro j h1 h2
  refine ⟨?_, fun z => gEn_0 (fun h => absurd (gE_f h).2.2.1 (by omega))⟩
  unfold gBa
  rw [decide_eq_false (show ¬ j % 5 + 1 = ms by omega)]; rfl
theorem mWE_eq {b : Nat → Nat → Int32} {g : Nat → Int32} {ev ms fi : Nat} {lt : Bool} {M : Nat} (hM31 : M < 2 ^ 31) (hms : ms ≤ 5) : ∀ (k e1 A : Nat) (Y : Nat → Nat) (acc : Int32) (y : Nat → Int32), ev < e1 + k → ev - 16 ≤ e1 → e1 ≤ ev → acc = nI A → (∀ j, j < 80 → y j = nI (Y j)) → wsum Y vW (80 - 5 * (e1 - (ev - 16))) (5 * (e1 - (ev - 16))) ≤ M →
    (mWE b g ev ms fi lt k e1 acc y).1 = nI (fwA (gEn b g ev ms fi) (gBa ev ms lt) (5 * (ev - e1)) (5 * (e1 - (ev - 16))) A Y).1 := by
  intro k
  induction k with
  | zero => intro e1 A Y acc y h1 h2 h3; omega
  | succ k ih =>
    intro e1 A Y acc y h1 h2 h3 ha hy hM
    by_cases he : e1 < ev
    · rw [mWE, if_pos he, show 5 * (ev - e1) = 5 + 5 * (ev - (e1 + 1)) by omega, fwA_two, fwA_step b g ev ms fi lt hms, show 5 * (e1 - (ev - 16)) + 5 = 5 * (e1 + 1 - (ev - 16)) by omega]
      obtain ⟨r1, r2, r3⟩ := mWS_eq (b := b) (g := g) (fi := fi) (lt := lt) hM31 hms h2 he (ms + 1) 0 A Y acc y (by omega) (by omega) ha hy hM
      rw [Nat.sub_zero, Nat.add_zero] at r1 r2 r3
      refine ih (e1 + 1) _ _ _ _ (by omega) (by omega) (by omega) r1 r2 ?_
      have r4 := fwA_small (gEn b g ev ms fi) (gBa ev ms lt) vW M (gEn_ok b g ev ms fi) (fun i _ => vW_pos i) 5 (5 * (e1 - (ev - 16))) A Y (by omega) hM
      rw [fwA_step b g ev ms fi lt hms, show 5 * (e1 - (ev - 16)) + 5 = 5 * (e1 + 1 - (ev - 16)) by omega] at r4
      exact r4
    · have e : e1 = ev := by omega
      subst e
      rw [mWE, if_neg (by omega), Nat.sub_self, Nat.mul_zero]
      exact ha
theorem fwA_zero (E : Nat → Nat → Nat) (ba : Nat → Nat) (N : Nat) (h : ∀ i j, N ≤ j → E i j = 0) : ∀ (k i A : Nat) (Y : Nat → Nat), (∀ j, N ≤ j → Y j = 0) → ∀ j, N ≤ j → (fwA E ba k i A Y).2 j = 0 := by
  intro k
  induction k with
  | zero => intro i A Y hY j hj; exact hY j hj
  | succ k ih =>
    intro i A Y hY j hj
    rw [fwA]
    exact ih (i + 1) _ _ (fun z hz => by rw [hY z hz, h i z hz, Nat.mul_zero]) j hj
theorem wsum_unit {d : Nat → Nat} {i0 : Nat} : ∀ (k lo : Nat), lo ≤ i0 → i0 < lo + k → wsum (fun j => if j = i0 then 1 else 0) d k lo = d i0 := by
  intro k
  induction k with
  | zero => intro lo h1 h2; omega
  | succ k ih =>
    intro lo h1 h2
    rw [wsum]
    by_cases h : lo = i0
    · subst h
      rw [if_pos rfl, Nat.one_mul, wsum_zero _ _ (fun j a b => if_neg (by omega)), Nat.add_zero]
    · rw [if_neg h, Nat.zero_mul, Nat.zero_add, ih (lo + 1) (by omega) (by omega)]
/-- how many ways there are from the event e0 at the step s0 on -/
def gW (b : Nat → Nat → Int32) (g : Nat → Int32) (ev ms fi : Nat) (lt : Bool) (p s0 : Nat) : Nat := bI80 (gEn b g ev ms fi) (gBa ev ms lt) (5 * p + s0)
theorem mWays {b : Nat → Nat → Int32} {g : Nat → Int32} {ev ms fi e0 s0 : Nat} {lt : Bool} (hms : ms ≤ 5) (h1 : ev - 16 ≤ e0) (h2 : e0 < ev) (h3 : s0 < ms) {y : Nat → Int32} (hy : ∀ j, j < 80 → y j = 0) :
    (mWE b g ev ms fi lt (ev + 1) e0 0 (upd y (5 * (e0 - (ev - 16)) + s0) 1)).1 = nI (gW b g ev ms fi lt (e0 - (ev - 16)) s0) := by
  have hi0 : 5 * (e0 - (ev - 16)) + s0 < 80 := by omega
  have hu : ∀ (d : Nat → Nat), wsum (fun j => if j = 5 * (e0 - (ev - 16)) + s0 then 1 else 0) d (80 - 5 * (e0 - (ev - 16))) (5 * (e0 - (ev - 16))) = d (5 * (e0 - (ev - 16)) + s0) := fun d => wsum_unit _ _ (by omega) (by omega)
  have hM : wsum (fun j => if j = 5 * (e0 - (ev - 16)) + s0 then 1 else 0) vW (80 - 5 * (e0 - (ev - 16))) (5 * (e0 - (ev - 16))) ≤ 3 ^ 15 := by
    rw [hu]
    exact Nat.pow_le_pow_right (by decide) (by omega)
  rw [mWE_eq (M := 3 ^ 15) (by decide) hms (ev + 1) e0 0 (fun j => if j = 5 * (e0 - (ev - 16)) + s0 then 1 else 0) 0 _ (by omega) h1 (by omega) rfl (fun j hj => by
    by_cases h : j = 5 * (e0 - (ev - 16)) + s0
    · rw [if_pos h, h]; exact pk_us
    · rw [if_neg h]; exact (pk_un h).trans (hy j hj)) hM]
  have v := fwA_val (gEn b g ev ms fi) (gBa ev ms lt) (5 * (ev - e0)) (5 * (e0 - (ev - 16))) 0 (fun j => if j = 5 * (e0 - (ev - 16)) + s0 then 1 else 0) (by omega)
  have z := fwA_zero (gEn b g ev ms fi) (gBa ev ms lt) (5 * (ev - (ev - 16))) (fun i j hj => gEn_0 (fun h => by have := (gE_f h).2.1; have := mEnd_le g ev (ev - 16 + i / 5); omega)) (5 * (ev - e0)) (5 * (e0 - (ev - 16))) 0 (fun j => if j = 5 * (e0 - (ev - 16)) + s0 then 1 else 0) (fun j hj => if_neg (by omega))
  rw [hu, show 5 * (e0 - (ev - 16)) + 5 * (ev - e0) = 5 * (ev - (ev - 16)) by omega, wsum_zero _ _ (fun j a _ => z j a), Nat.zero_add, Nat.add_zero] at v
  rw [← v]; rfl
