/-! THE REFERENCE'S WAYS ARE THE FORWARD COUNT -/
def eN (x : Bool) : Nat := if x then 1 else 0
def gE (b : Nat → Nat → Int32) (g : Nat → Int32) (ev ms fi i j : Nat) : Bool :=
  decide (i / 5 < j / 5) && (decide ((ev - 16) + j / 5 < mEnd g ev ((ev - 16) + i / 5)) && (decide (i % 5 < ms) && (decide (j % 5 < ms) && (mFit1 b g ((ev - 16) + j / 5) (j % 5) ((ev - 16) + i / 5) fi && ((decide (j % 5 = i % 5) && !decide (b 6 (i % 5) = 0)) || decide (j % 5 = i % 5 + 1))))))
def gEn (b : Nat → Nat → Int32) (g : Nat → Int32) (ev ms fi i j : Nat) : Nat := eN (gE b g ev ms fi i j)
def gBa (ev ms : Nat) (lt : Bool) (i : Nat) : Nat := eN (decide (i % 5 + 1 = ms) && (!lt || decide ((ev - 16) + i / 5 + 1 = ev)))
theorem mNN_eq {b : Nat → Nat → Int32} {g : Nat → Int32} {ev ms fi e1 st v nx : Nat} (hst : st < ms) (hms : ms ≤ 5) (hb : ev - 16 ≤ e1) (h1 : e1 < nx) (h2 : nx < mEnd g ev e1) (y : Nat → Int32) (j : Nat) :
    mN2 b g ev ms fi e1 st (nI v) nx (mN1 b g ev fi e1 st (nI v) nx y) j = y j + nI (v * eN (gE b g ev ms fi (5 * (e1 - (ev - 16)) + st) j && decide ((ev - 16) + j / 5 = nx))) := by
  have hi1 : (5 * (e1 - (ev - 16)) + st) / 5 = e1 - (ev - 16) := by omega
  have hi2 : (5 * (e1 - (ev - 16)) + st) % 5 = st := by omega
  have hb2 : (ev - 16) + (e1 - (ev - 16)) = e1 := by omega
  have z : y j + nI (v * eN false) = y j := by show y j + nI (v * 0) = y j; rw [Nat.mul_zero, nI_0, Int32.add_zero]
  have o : y j + nI (v * eN true) = y j + nI v := by show y j + nI (v * 1) = y j + nI v; rw [Nat.mul_one]
  unfold gE
  rw [hi1, hi2, hb2]
  by_cases hn : (ev - 16) + j / 5 = nx
  · rw [hn, decide_eq_true (show e1 - (ev - 16) < j / 5 by omega), decide_eq_true h2, decide_eq_true hst, decide_eq_true (rfl : nx = nx), Bool.true_and, Bool.true_and, Bool.true_and, Bool.and_true]
    by_cases k1 : j % 5 = st
    · have m2 : ∀ Y : Nat → Int32, mN2 b g ev ms fi e1 st (nI v) nx Y j = Y j := by
        intro Y; unfold mN2; split
        · rfl
        · exact pk_un (by omega)
      rw [m2, k1, decide_eq_true hst, decide_eq_true (rfl : st = st), decide_eq_false (show ¬ st = st + 1 by omega), Bool.true_and, Bool.true_and, Bool.or_false]
      unfold mN1
      by_cases k2 : b 6 st = 0
      · rw [if_pos (Or.inl k2), decide_eq_true k2, Bool.not_true, Bool.and_false, z]
      · rw [decide_eq_false k2, Bool.not_false, Bool.and_true]
        cases k3 : mFit1 b g nx st e1 fi with
        | false => rw [if_pos (Or.inr rfl), z]
        | true =>
          rw [if_neg (by rintro (h | h); exact k2 h; cases h), show 5 * (nx - (ev - 16)) + st = j by omega, pk_us, o]
    · by_cases k2 : j % 5 = st + 1
      · have m1 : mN1 b g ev fi e1 st (nI v) nx y j = y j := by
          unfold mN1; split
          · rfl
          · exact pk_un (by omega)
        rw [k2, decide_eq_false (show ¬ st + 1 = st by omega), Bool.false_and, Bool.false_or, decide_eq_true (rfl : st + 1 = st + 1), Bool.and_true]
        unfold mN2
        by_cases k3 : st + 1 < ms
        · rw [decide_eq_true k3, Bool.true_and]
          cases k4 : mFit1 b g nx (st + 1) e1 fi with
          | false => rw [if_pos (Or.inr rfl), m1, z]
          | true =>
            rw [if_neg (by rintro (h | h); omega; cases h), show 5 * (nx - (ev - 16)) + st + 1 = j by omega, pk_us, m1, o]
        · rw [decide_eq_false k3, Bool.false_and, if_pos (Or.inl (by omega)), m1, z]
      · rw [decide_eq_false k1, decide_eq_false k2, Bool.false_and, Bool.or_false, Bool.and_false, Bool.and_false, z]
        have m1 : mN1 b g ev fi e1 st (nI v) nx y j = y j := by
          unfold mN1; split
          · rfl
          · exact pk_un (by omega)
        unfold mN2; split
        · exact m1
        · exact (pk_un (by omega)).trans m1
  · rw [decide_eq_false hn, Bool.and_false, z]
    have m1 : mN1 b g ev fi e1 st (nI v) nx y j = y j := by
      unfold mN1; split
      · rfl
      · exact pk_un (by omega)
    unfold mN2; split
    · exact m1
    · exact (pk_un (by omega)).trans m1
theorem mWN_eq {b : Nat → Nat → Int32} {g : Nat → Int32} {ev ms fi e1 st v : Nat} (hst : st < ms) (hms : ms ≤ 5) (hb : ev - 16 ≤ e1) (hv : v < 2 ^ 31) : ∀ (k nx : Nat) (y : Nat → Int32), mEnd g ev e1 < nx + k → e1 < nx → ∀ j,
    mWN b g ev ms fi e1 st (mEnd g ev e1) (nI v) k nx y j = y j + nI (v * eN (gE b g ev ms fi (5 * (e1 - (ev - 16)) + st) j && decide (nx ≤ (ev - 16) + j / 5))) := by
  intro k
  have z : ∀ x : Int32, x + nI (v * eN false) = x := fun x => by show x + nI (v * 0) = x; rw [Nat.mul_zero, nI_0, Int32.add_zero]
  have hi1 : (5 * (e1 - (ev - 16)) + st) / 5 = e1 - (ev - 16) := by omega
  have hb2 : (ev - 16) + (e1 - (ev - 16)) = e1 := by omega
  have far : ∀ j nx, mEnd g ev e1 ≤ nx → (gE b g ev ms fi (5 * (e1 - (ev - 16)) + st) j && decide (nx ≤ (ev - 16) + j / 5)) = false := by
    intro j nx h
    by_cases hn : nx ≤ (ev - 16) + j / 5
    · unfold gE
      rw [hi1, hb2, decide_eq_false (show ¬ (ev - 16) + j / 5 < mEnd g ev e1 by omega), Bool.false_and, Bool.and_false, Bool.false_and]
    · rw [decide_eq_false hn, Bool.and_false]
  induction k with
  | zero => intro nx y h1 h2 j; rw [far j nx (by omega), z]; rfl
  | succ k ih =>
    intro nx y h1 h2 j
    by_cases hc : nx < mEnd g ev e1 ∧ 0 < nI v
    · rw [mWN, if_pos hc, ih (nx + 1) _ (by omega) (by omega) j, mNN_eq hst hms hb h2 hc.1, Int32.add_assoc, nI_add, ← Nat.mul_add]
      congr 3
      by_cases h3 : (ev - 16) + j / 5 = nx
      · rw [decide_eq_true h3, decide_eq_false (show ¬ nx + 1 ≤ (ev - 16) + j / 5 by omega), decide_eq_true (show nx ≤ (ev - 16) + j / 5 by omega), Bool.and_true, Bool.and_false]; rfl
      · rw [decide_eq_false h3, Bool.and_false]
        by_cases h4 : nx + 1 ≤ (ev - 16) + j / 5
        · rw [decide_eq_true h4, decide_eq_true (show nx ≤ (ev - 16) + j / 5 by omega)]; show 0 + _ = _; rw [Nat.zero_add]
        · rw [decide_eq_false h4, decide_eq_false (show ¬ nx ≤ (ev - 16) + j / 5 by omega), Bool.and_false]; rfl
    · rw [mWN, if_neg hc]
      by_cases h3 : nx < mEnd g ev e1
      · have h4 : v = 0 := by
          rcases Nat.eq_zero_or_pos v with h | h
          · exact h
          · exact absurd ⟨h3, by rw [← nI_0]; exact (nI_ltI (by omega) hv).mpr h⟩ hc
        subst h4
        rw [Nat.zero_mul, nI_0, Int32.add_zero]
      · rw [far j nx (by omega), z]
