/-! COUNTING WAYS: nodes 0 .. 79 (five steps of sixteen events), edges that go up; forward and backward counting agree -/
def wsum (Y d : Nat → Nat) : Nat → Nat → Nat
  | 0, _ => 0
  | k + 1, lo => Y lo * d lo + wsum Y d k (lo + 1)
theorem wsum_congr {Y Y2 d d2 : Nat → Nat} : ∀ (k lo : Nat), (∀ j, lo ≤ j → j < lo + k → Y j = Y2 j ∧ d j = d2 j) → wsum Y d k lo = wsum Y2 d2 k lo := by
  intro k
  induction k with
  | zero => intro lo h; rfl
  | succ k ih =>
    intro lo h
    obtain ⟨h1, h2⟩ := h lo (by omega) (by omega)
    rw [wsum, wsum, h1, h2, ih (lo + 1) (fun j a b => h j (by omega) (by omega))]
theorem wsum_zero {Y d : Nat → Nat} : ∀ (k lo : Nat), (∀ j, lo ≤ j → j < lo + k → Y j = 0) → wsum Y d k lo = 0 := by
  intro k
  induction k with
  | zero => intro lo h; rfl
  | succ k ih =>
    intro lo h
    rw [wsum, h lo (by omega) (by omega), ih (lo + 1) (fun j a b => h j (by omega) (by omega)), Nat.zero_mul]
theorem wsum_lin {Y E d : Nat → Nat} (c : Nat) : ∀ (k lo : Nat), wsum (fun j => Y j + c * E j) d k lo = wsum Y d k lo + c * wsum E d k lo := by
  intro k
  induction k with
  | zero => intro lo; rfl
  | succ k ih =>
    intro lo
    simp only [wsum]
    rw [ih (lo + 1), Nat.add_mul, Nat.mul_add, Nat.mul_assoc]
    omega
theorem wsum_ge {Y d : Nat → Nat} : ∀ (k lo j : Nat), lo ≤ j → j < lo + k → Y j * d j ≤ wsum Y d k lo := by
  intro k
  induction k with
  | zero => intro lo j h1 h2; omega
  | succ k ih =>
    intro lo j h1 h2
    rw [wsum]
    by_cases h : j = lo
    · subst h; omega
    · have := ih (lo + 1) j (by omega) (by omega)
      omega
theorem wsum_split {Y d : Nat → Nat} : ∀ (k m lo : Nat), wsum Y d (k + m) lo = wsum Y d k lo + wsum Y d m (lo + k) := by
  intro k
  induction k with
  | zero => intro m lo; simp [wsum]
  | succ k ih =>
    intro m lo
    rw [show k + 1 + m = (k + m) + 1 by omega, wsum, wsum, ih m (lo + 1), show lo + 1 + k = lo + (k + 1) by omega]
    omega
/-- backward: the ways from node i on -/
def bi (E : Nat → Nat → Nat) (ba : Nat → Nat) : Nat → Nat → Nat
  | 0, _ => 0
  | k + 1, i => ba i + wsum (E i) (bi E ba k) (79 - i) (i + 1)
theorem bi_fuel (E : Nat → Nat → Nat) (ba : Nat → Nat) : ∀ (k k2 i : Nat), i < 80 → 80 - i ≤ k → 80 - i ≤ k2 → bi E ba k i = bi E ba k2 i := by
  intro k
  induction k with
  | zero => intro k2 i h1 h2 h3; omega
  | succ k ih =>
    intro k2 i h1 h2 h3
    obtain ⟨m, rfl⟩ : ∃ m, k2 = m + 1 := ⟨k2 - 1, by omega⟩
    rw [bi, bi, wsum_congr (79 - i) (i + 1) (fun j a b => ⟨rfl, ih m j (by omega) (by omega) (by omega)⟩)]
def bI80 (E : Nat → Nat → Nat) (ba : Nat → Nat) (i : Nat) : Nat := bi E ba 80 i
theorem bI80_eq (E : Nat → Nat → Nat) (ba : Nat → Nat) {i : Nat} (h : i < 80) : bI80 E ba i = ba i + wsum (E i) (bI80 E ba) (79 - i) (i + 1) := by
  unfold bI80
  rw [show bi E ba 80 i = bi E ba (79 + 1) i from rfl, bi, wsum_congr (79 - i) (i + 1) (fun j a b => ⟨rfl, bi_fuel E ba 79 80 j (by omega) (by omega) (by omega)⟩)]
/-- forward: one node after the other hands on what came to it -/
def fwA (E : Nat → Nat → Nat) (ba : Nat → Nat) : Nat → Nat → Nat → (Nat → Nat) → Nat × (Nat → Nat)
  | 0, _, A, Y => (A, Y)
  | k + 1, i, A, Y => fwA E ba k (i + 1) (A + ba i * Y i) (fun j => Y j + Y i * E i j)
theorem fwA_val (E : Nat → Nat → Nat) (ba : Nat → Nat) : ∀ (k i A : Nat) (Y : Nat → Nat), i + k ≤ 80 → A + wsum Y (bI80 E ba) (80 - i) i = (fwA E ba k i A Y).1 + wsum (fwA E ba k i A Y).2 (bI80 E ba) (80 - (i + k)) (i + k) := by
  intro k
  induction k with
  | zero => intro i A Y h; rfl
  | succ k ih =>
    intro i A Y h
    have e1 := ih (i + 1) (A + ba i * Y i) (fun j => Y j + Y i * E i j) (by omega)
    rw [show i + 1 + k = i + (k + 1) by omega] at e1
    rw [fwA, ← e1, wsum_lin, show 80 - i = (80 - (i + 1)) + 1 by omega, wsum, bI80_eq E ba (i := i) (by omega), Nat.mul_add, show 79 - i = 80 - (i + 1) by omega, Nat.mul_comm (ba i)]
    omega
/-- what comes to a node stays small -/
theorem fwA_small (E : Nat → Nat → Nat) (ba V : Nat → Nat) (M : Nat) (hV : ∀ i, i < 80 → wsum (E i) V (79 - i) (i + 1) ≤ V i) (h1 : ∀ i, i < 80 → 1 ≤ V i) : ∀ (k i A : Nat) (Y : Nat → Nat), i + k ≤ 80 → wsum Y V (80 - i) i ≤ M → wsum (fwA E ba k i A Y).2 V (80 - (i + k)) (i + k) ≤ M := by
  intro k
  induction k with
  | zero => intro i A Y h hM; exact hM
  | succ k ih =>
    intro i A Y h hM
    rw [fwA, show i + (k + 1) = i + 1 + k by omega]
    refine ih (i + 1) _ _ (by omega) ?_
    rw [wsum_lin]
    rw [show 80 - i = (80 - (i + 1)) + 1 by omega, wsum] at hM
    have h2 := Nat.mul_le_mul_left (Y i) (hV i (by omega))
    rw [show 79 - i = 80 - (i + 1) by omega] at h2
    omega
/-- five nodes of an event: only those of two neighbouring steps count -/
theorem wsum_block {Y d : Nat → Nat} {k p s : Nat} (hs : s < 5) (h : ∀ j, j < 5 → j ≠ s → j ≠ s + 1 → Y (5 * p + j) = 0) : wsum Y d (k + 5) (5 * p) = Y (5 * p + s) * d (5 * p + s) + (if s + 1 < 5 then Y (5 * p + (s + 1)) * d (5 * p + (s + 1)) else 0) + wsum Y d k (5 * (p + 1)) := by
  have e : wsum Y d (k + 5) (5 * p) = Y (5 * p) * d (5 * p) + (Y (5 * p + 1) * d (5 * p + 1) + (Y (5 * p + 2) * d (5 * p + 2) + (Y (5 * p + 3) * d (5 * p + 3) + (Y (5 * p + 4) * d (5 * p + 4) + wsum Y d k (5 * (p + 1)))))) := by
    simp only [wsum]
    rfl
  rw [e]
  have z : ∀ j, j < 5 → j ≠ s → j ≠ s + 1 → Y (5 * p + j) * d (5 * p + j) = 0 := fun j a b c => by rw [h j a b c, Nat.zero_mul]
  rcases (show s = 0 ∨ s = 1 ∨ s = 2 ∨ s = 3 ∨ s = 4 by omega) with rfl | rfl | rfl | rfl | rfl
  · have z2 := z 2 (by omega) (by omega) (by omega); have z3 := z 3 (by omega) (by omega) (by omega); have z4 := z 4 (by omega) (by omega) (by omega)
    rw [z2, z3, z4, if_pos (by omega)]; simp only [Nat.add_zero, Nat.zero_add, Nat.reduceAdd]; omega
  · have z0 := z 0 (by omega) (by omega) (by omega); have z3 := z 3 (by omega) (by omega) (by omega); have z4 := z 4 (by omega) (by omega) (by omega)
    rw [Nat.add_zero] at z0
    rw [z0, z3, z4, if_pos (by omega)]; simp only [Nat.zero_add, Nat.reduceAdd]; omega
  · have z0 := z 0 (by omega) (by omega) (by omega); have z1 := z 1 (by omega) (by omega) (by omega); have z4 := z 4 (by omega) (by omega) (by omega)
    rw [Nat.add_zero] at z0
    rw [z0, z1, z4, if_pos (by omega)]; simp only [Nat.zero_add, Nat.reduceAdd]; omega
  · have z0 := z 0 (by omega) (by omega) (by omega); have z1 := z 1 (by omega) (by omega) (by omega); have z2 := z 2 (by omega) (by omega) (by omega)
    rw [Nat.add_zero] at z0
    rw [z0, z1, z2, if_pos (by omega)]; simp only [Nat.zero_add, Nat.reduceAdd]; omega
  · have z0 := z 0 (by omega) (by omega) (by omega); have z1 := z 1 (by omega) (by omega) (by omega); have z2 := z 2 (by omega) (by omega) (by omega); have z3 := z 3 (by omega) (by omega) (by omega)
    rw [Nat.add_zero] at z0
    rw [z0, z1, z2, z3, if_neg (by omega)]; omega
