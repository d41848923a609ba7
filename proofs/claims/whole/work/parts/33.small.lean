/-! WHAT THE COUNTS HANG ON, AND THAT THEY ARE SMALL -/
theorem mIs_c {b b2 : Nat → Nat → Int32} {g g2 : Nat → Int32} (h : ∀ i, i ≤ 6 → b2 i = b i) (h3 : g2 3 = g 3) (e st fi : Nat) : mIs b2 g2 e st fi = mIs b g e st fi := by
  unfold mIs; rw [h 3 (by decide), h 1 (by decide), h 0 (by decide), h3]
theorem mFit1_c {b b2 : Nat → Nat → Int32} {g g2 : Nat → Int32} (h : ∀ i, i ≤ 6 → b2 i = b i) (h3 : g2 3 = g 3) (e st bf fi : Nat) : mFit1 b2 g2 e st bf fi = mFit1 b g e st bf fi := by
  unfold mFit1; rw [mIs_c h h3, h 4 (by decide), h 2 (by decide), h 5 (by decide)]
theorem mFit0_c {b b2 : Nat → Nat → Int32} {g g2 : Nat → Int32} (h : ∀ i, i ≤ 6 → b2 i = b i) (h3 : g2 3 = g 3) (e st fi : Nat) : mFit0 b2 g2 e st fi = mFit0 b g e st fi := by
  unfold mFit0; rw [mIs_c h h3, h 4 (by decide), h 2 (by decide), h 5 (by decide)]
theorem gEn_c {b b2 : Nat → Nat → Int32} {g g2 : Nat → Int32} (h : ∀ i, i ≤ 6 → b2 i = b i) (h2 : g2 2 = g 2) (h3 : g2 3 = g 3) (ev ms fi : Nat) : gEn b2 g2 ev ms fi = gEn b g ev ms fi := by
  funext i j
  unfold gEn gE mEnd
  rw [mFit1_c h h3, h 6 (by decide), h2]
theorem gW_c {b b2 : Nat → Nat → Int32} {g g2 : Nat → Int32} (h : ∀ i, i ≤ 6 → b2 i = b i) (h2 : g2 2 = g 2) (h3 : g2 3 = g 3) (ev ms fi : Nat) (lt : Bool) (p s0 : Nat) : gW b2 g2 ev ms fi lt p s0 = gW b g ev ms fi lt p s0 := by
  unfold gW; rw [gEn_c h h2 h3]
theorem up7 {b : Nat → Nat → Int32} {y : Nat → Int32} : ∀ i, i ≤ 6 → va_up b 7 y i = b i := fun i hi => va_up_ne _ _ (by omega)
theorem vW_ok1 {E : Nat → Nat → Nat} (h1 : ∀ i j, E i j ≤ 1) (h2 : ∀ i j, j % 5 ≠ i % 5 → j % 5 ≠ i % 5 + 1 → E i j = 0) (h3 : ∀ i j, j / 5 ≤ i / 5 → E i j = 0) : ∀ i, i < 80 → wsum (E i) vW (79 - i) (i + 1) + 1 ≤ vW i := by
  intro i hi
  have t := vW_tail (E := E i) (s := i % 5) (by omega) (h1 i) (fun j a b => h2 i j a b) (15 - i / 5) (by omega)
  rw [show 79 - i = (5 * (i / 5 + 1) - (i + 1)) + 5 * (15 - i / 5) by omega, wsum_split, wsum_zero _ _ (fun j a b => h3 i j (by omega)), Nat.zero_add, show i + 1 + (5 * (i / 5 + 1) - (i + 1)) = 5 * (16 - (15 - i / 5)) by omega]
  have e9 : vW i = 3 ^ (15 - i / 5) := rfl
  omega
theorem wsum_mono {Y d d2 : Nat → Nat} : ∀ (k lo : Nat), (∀ j, lo ≤ j → j < lo + k → d j ≤ d2 j) → wsum Y d k lo ≤ wsum Y d2 k lo := by
  intro k
  induction k with
  | zero => intro lo h; exact Nat.le_refl _
  | succ k ih =>
    intro lo h
    rw [wsum, wsum]
    have a := Nat.mul_le_mul_left (Y lo) (h lo (by omega) (by omega))
    have b := ih (lo + 1) (fun j x y => h j (by omega) (by omega))
    omega
theorem bI80_le {E : Nat → Nat → Nat} {ba : Nat → Nat} (h0 : ∀ i, ba i ≤ 1) (hV : ∀ i, i < 80 → wsum (E i) vW (79 - i) (i + 1) + 1 ≤ vW i) : ∀ (k i : Nat), i < 80 → 80 - i ≤ k → bI80 E ba i ≤ vW i := by
  intro k
  induction k with
  | zero => intro i h1 h2; omega
  | succ k ih =>
    intro i h1 h2
    rw [bI80_eq E ba h1]
    have a := wsum_mono (Y := E i) (d := bI80 E ba) (d2 := vW) (79 - i) (i + 1) (fun j x y => ih j (by omega) (by omega))
    have b := h0 i
    have c := hV i h1
    omega
theorem gW_le (b : Nat → Nat → Int32) (g : Nat → Int32) (ev ms fi : Nat) (lt : Bool) {p s0 : Nat} (h : 5 * p + s0 < 80) : gW b g ev ms fi lt p s0 ≤ 3 ^ 15 := by
  have a := bI80_le (E := gEn b g ev ms fi) (ba := gBa ev ms lt) (fun i => eN_le _) (vW_ok1 (gEn_1 b g ev ms fi) (fun i j h1 h2 => gEn_0 (fun h => (gE_f h).2.2.2.2.elim h1 h2)) (fun i j h1 => gEn_0 (fun h => absurd (gE_f h).1 (by omega)))) 80 (5 * p + s0) h (by omega)
  exact Nat.le_trans a (Nat.pow_le_pow_right (by decide) (by omega))
/-- the matches that begin with the event fi -/
def gF (b : Nat → Nat → Int32) (g : Nat → Int32) (ev ms : Nat) (lt : Bool) (fi : Nat) : Nat := if mFit0 b g fi 0 fi then gW b g ev ms fi lt (fi - (ev - 16)) 0 else 0
theorem gF_c {b b2 : Nat → Nat → Int32} {g g2 : Nat → Int32} (h : ∀ i, i ≤ 6 → b2 i = b i) (h2 : g2 2 = g 2) (h3 : g2 3 = g 3) (ev ms : Nat) (lt : Bool) (fi : Nat) : gF b2 g2 ev ms lt fi = gF b g ev ms lt fi := by
  unfold gF; rw [mFit0_c h h3, gW_c h h2 h3]
theorem gF_le (b : Nat → Nat → Int32) (g : Nat → Int32) (ev ms : Nat) (lt : Bool) {fi : Nat} (h : fi < ev) : gF b g ev ms lt fi ≤ 3 ^ 15 := by
  unfold gF; split
  · exact gW_le b g ev ms fi lt (by omega)
  · omega
def gAll (b : Nat → Nat → Int32) (g : Nat → Int32) (ev ms : Nat) (lt : Bool) : Nat → Nat → Nat
  | 0, _ => 0
  | k + 1, fi => gF b g ev ms lt fi + gAll b g ev ms lt k (fi + 1)
theorem gAll_c {b b2 : Nat → Nat → Int32} {g g2 : Nat → Int32} (h : ∀ i, i ≤ 6 → b2 i = b i) (h2 : g2 2 = g 2) (h3 : g2 3 = g 3) (ev ms : Nat) (lt : Bool) : ∀ k fi, gAll b2 g2 ev ms lt k fi = gAll b g ev ms lt k fi := by
  intro k
  induction k with
  | zero => intro fi; rfl
  | succ k ih => intro fi; rw [gAll, gAll, gF_c h h2 h3, ih]
