/-! THE TWO STATES AGREE -/
def Ag (a : Nat → Nat → Int32) (f : Nat → Int32) (b : Nat → Nat → Int32) (g : Nat → Int32) (ev n ms : Nat) : Prop :=
  n = ev - (ev - 16) ∧ ms ≤ 5 ∧ f 2 = g 2 ∧ f 3 = g 3 ∧ (g 2 = 0 ∨ g 2 = 1) ∧ ¬ g 3 < 0 ∧ (∀ i p, i ≤ 2 → p < n → a i p = b i ((ev - 16) + p)) ∧ (∀ i s, 3 ≤ i → i ≤ 6 → s < ms → a i s = b i s) ∧ (∀ i j, i ≤ j → j < ev → b 0 i ≤ b 0 j) ∧ (∀ i, i < ev → ¬ b 0 i < 0 ∧ b 0 i ≤ 1000000)
theorem lk_bit (x : Int32) : decide (x &&& 1 = 1) = !decide (x &&& 1 = 0) := by
  obtain ⟨j, h1, h2⟩ := pk_andE x (m := 1) 1 (by decide)
  rw [h2]
  rcases (show j = 0 ∨ j = 1 by omega) with rfl | rfl <;> decide
theorem lk_nat {b : Nat → Nat → Int32} {ev : Nat} (h : ∀ i, i < ev → ¬ b 0 i < 0 ∧ b 0 i ≤ 1000000) {i : Nat} (hi : i < ev) : ∃ t : Nat, t ≤ 1000000 ∧ b 0 i = nI t :=
  nI_of2 (M := 1000000) (n := 1000000) (by decide) (h i hi).1 (h i hi).2
theorem lk_late {b : Nat → Nat → Int32} {x : Int32} {ev i j k : Nat} (hb : ∀ i, i < ev → ¬ b 0 i < 0 ∧ b 0 i ≤ 1000000) (hs : ∀ i j, i ≤ j → j < ev → b 0 i ≤ b 0 j) (h1 : j ≤ k) (h2 : k < ev) (h3 : i < ev) (h : x < b 0 j - b 0 i) : x < b 0 k - b 0 i := by
  have h4 := hs j k h1 h2
  obtain ⟨t1, q1, e1⟩ := lk_nat hb h3
  obtain ⟨t2, q2, e2⟩ := lk_nat hb (show j < ev by omega)
  obtain ⟨t3, q3, e3⟩ := lk_nat hb h2
  rw [e2, e3, nI_leI (by omega) (by omega)] at h4
  rw [e1, e2, Int32.lt_iff_toInt_lt, pk_sub_toInt (by omega) (by omega)] at h
  rw [e1, e3, Int32.lt_iff_toInt_lt, pk_sub_toInt (by omega) (by omega)]
  omega
section LK
variable {a b : Nat → Nat → Int32} {f g : Nat → Int32} {ev n ms : Nat}
theorem lk_fit0 (A : Ag a f b g ev n ms) (h0 : 1 ≤ ms) {fi : Nat} (h1 : fi < n) : mFit0 b g ((ev - 16) + fi) 0 ((ev - 16) + fi) = xFit a fi 0 fi fi := by
  obtain ⟨hn, hm, e2, e3, hsy, hsp, hev, hst, hs, hb⟩ := A
  unfold mFit0 xFit mIs
  rw [lk_bit, Int32.sub_self, decide_eq_false hsp, decide_eq_true (rfl : fi = fi), hev 1 fi (by omega) h1, hev 2 fi (by omega) h1, hst 3 0 (by omega) (by omega) (by omega), hst 4 0 (by omega) (by omega) (by omega), hst 5 0 (by omega) (by omega) (by omega), Bool.not_false, Bool.and_true, Bool.true_or]
theorem lk_fit1 (A : Ag a f b g ev n ms) {fi pl nx st : Nat} (h1 : fi ≤ pl) (h2 : pl < nx) (h3 : nx < n) (h4 : st < ms) : mFit1 b g ((ev - 16) + nx) st ((ev - 16) + pl) ((ev - 16) + fi) = (xFit a nx st pl fi && !decide (f 3 < a 0 nx - a 0 fi)) := by
  obtain ⟨hn, hm, e2, e3, hsy, hsp, hev, hst, hs, hb⟩ := A
  unfold mFit1 xFit mIs
  rw [lk_bit, decide_eq_false (show ¬ nx = fi by omega), e3, hev 0 nx (by omega) h3, hev 0 fi (by omega) (by omega), hev 1 nx (by omega) h3, hev 2 nx (by omega) h3, hev 2 pl (by omega) (by omega), hev 2 fi (by omega) (by omega), hst 3 st (by omega) (by omega) h4, hst 4 st (by omega) (by omega) h4, hst 5 st (by omega) (by omega) h4, Bool.false_or, Bool.false_or, Bool.and_assoc, Bool.and_assoc]
  congr 1
  exact Bool.and_comm _ _
theorem lk_mEnd (g : Nat → Int32) (ev e1 : Nat) : mEnd g ev e1 ≤ ev := by unfold mEnd; split <;> omega
/-- no edge to an event that may not follow -/
theorem lk_no (A : Ag a f b g ev n ms) {fi pl nx st : Nat} (h1 : fi ≤ pl) (h2 : pl < nx) (hpn : pl < n) (h3 : st < ms) (hc : ¬ (nx < n ∧ xMay a f fi pl nx = true)) : ∀ j, 5 * nx ≤ j → gEn b g ev ms ((ev - 16) + fi) (5 * pl + st) j = 0 := by
  intro j hj
  have A0 := A
  obtain ⟨hn, hm, e2, e3, hsy, hsp, hev, hst, hs, hb⟩ := A
  refine gEn_0 (fun h => ?_)
  obtain ⟨q1, q2, q3, q4, q5⟩ := gE_f h
  have i1 : (5 * pl + st) / 5 = pl := by omega
  rw [i1] at q1 q2
  have q6 := lk_mEnd g ev ((ev - 16) + pl)
  refine hc ⟨by omega, ?_⟩
  unfold gE at h
  simp only [Bool.and_eq_true] at h
  have h9 := h.2.2.2.2.1
  rw [i1, lk_fit1 A0 h1 q1 (by omega) q4, Bool.and_eq_true] at h9
  unfold xMay
  rw [Bool.and_eq_true]
  constructor
  · rw [Bool.or_eq_true]
    by_cases h8 : g 2 = 0
    · right
      unfold mEnd at q2
      rw [decide_eq_true_eq]
      split at q2
      · omega
      · rename_i h7
        have : ¬ (ev - 16) + pl + 2 < ev := fun h6 => h7 ⟨h8, h6⟩
        omega
    · left
      rw [e2, decide_eq_false h8]; rfl
  · have h8 := h9.2
    rw [Bool.not_eq_true', decide_eq_false_iff_not] at h8 ⊢
    intro h7
    refine h8 ?_
    rw [hev 0 nx (by omega) (by omega), hev 0 fi (by omega) (by omega)] at h7
    rw [hev 0 (j / 5) (by omega) (by omega), hev 0 fi (by omega) (by omega)]
    exact lk_late hb hs (by omega) (by omega) (by omega) h7
theorem lk_may (A : Ag a f b g ev n ms) {fi pl nx : Nat} (h : xMay a f fi pl nx = true) : (decide (g 2 = 1) || decide ((ev - 16) + nx = (ev - 16) + pl + 1)) = true ∧ (!decide (f 3 < a 0 nx - a 0 fi)) = true := by
  obtain ⟨hn, hm, e2, e3, hsy, hsp, hev, hst, hs, hb⟩ := A
  unfold xMay at h
  rw [Bool.and_eq_true] at h
  refine ⟨?_, h.2⟩
  have h1 := h.1
  rw [Bool.or_eq_true] at h1 ⊢
  rcases h1 with h1 | h1
  · left
    rw [e2, Bool.not_eq_true', decide_eq_false_iff_not] at h1
    rw [decide_eq_true_eq]
    exact hsy.resolve_left h1
  · right
    rw [decide_eq_true_eq] at h1 ⊢
    omega
/-- what one event adds -/
theorem lk_same (A : Ag a f b g ev n ms) {fi pl nx st : Nat} (h1 : fi ≤ pl) (h2 : pl < nx) (h3 : nx < n) (h4 : st < ms) (hc : xMay a f fi pl nx = true) {w : Nat → Nat → Int32} {x : Nat} (hw : w nx st = nI x) : xSame a w fi pl st nx = nI (eN (gE b g ev ms ((ev - 16) + fi) (5 * pl + st) (5 * nx + st)) * x) := by
  obtain ⟨m1, m2⟩ := lk_may A hc
  have A0 := A
  obtain ⟨hn, hm, e2, e3, hsy, hsp, hev, hst, hs, hb⟩ := A
  have q := gE_same (b := b) (g := g) (ev := ev) (ms := ms) (fi := (ev - 16) + fi) (e1 := (ev - 16) + pl) (st := st) (nx := (ev - 16) + nx) (by omega) (by omega) (by omega) h4 hm hsy
  rw [show (ev - 16) + pl - (ev - 16) = pl by omega, show (ev - 16) + nx - (ev - 16) = nx by omega, m1, Bool.true_and, lk_fit1 A0 h1 h2 h3 h4, m2, Bool.and_true, ← hst 6 st (by omega) (by omega) h4] at q
  rw [q, eN_mul, xSame, hw]
  by_cases k1 : a 6 st = 0
  · rw [if_pos (Or.inl k1), decide_eq_true k1]; rfl
  · cases k2 : xFit a nx st pl fi with
    | false => rw [if_pos (Or.inr rfl), Bool.and_false]; rfl
    | true => rw [if_neg (by rintro (h | h); exact k1 h; cases h), decide_eq_false k1]; rfl
theorem lk_next (A : Ag a f b g ev n ms) {fi pl nx st : Nat} (h1 : fi ≤ pl) (h2 : pl < nx) (h3 : nx < n) (h4 : st < ms) (hc : xMay a f fi pl nx = true) {w : Nat → Nat → Int32} {x : Nat} (hw : st + 1 < ms → w nx (st + 1) = nI x) : xNext a w ms fi pl st nx = nI (if st + 1 < 5 then eN (gE b g ev ms ((ev - 16) + fi) (5 * pl + st) (5 * nx + (st + 1))) * x else 0) := by
  obtain ⟨m1, m2⟩ := lk_may A hc
  have A0 := A
  obtain ⟨hn, hm, e2, e3, hsy, hsp, hev, hst, hs, hb⟩ := A
  by_cases k1 : st + 1 < ms
  · have q := gE_next (b := b) (g := g) (ev := ev) (ms := ms) (fi := (ev - 16) + fi) (e1 := (ev - 16) + pl) (st := st) (nx := (ev - 16) + nx) (by omega) (by omega) (by omega) h4 hm hsy (by omega)
    rw [show (ev - 16) + pl - (ev - 16) = pl by omega, show (ev - 16) + nx - (ev - 16) = nx by omega, m1, Bool.true_and, lk_fit1 A0 h1 h2 h3 k1, m2, Bool.and_true, decide_eq_true k1, Bool.true_and] at q
    rw [if_pos (by omega), q, eN_mul, xNext, hw k1]
    cases k2 : xFit a nx (st + 1) pl fi with
    | false => rw [if_pos (Or.inr rfl)]; rfl
    | true => rw [if_neg (by rintro (h | h); omega; cases h)]; rfl
  · rw [xNext, if_pos (Or.inl (by omega))]
    by_cases k2 : st + 1 < 5
    · rw [if_pos k2, show gE b g ev ms ((ev - 16) + fi) (5 * pl + st) (5 * nx + (st + 1)) = false from by
        rw [← Bool.not_eq_true]; intro h; have q := (gE_f h).2.2.2.1; omega, eN_mul]
      rfl
    · rw [if_neg k2]; rfl
theorem lk_step {fi pl nx st : Nat} (h : nx < 16) (h4 : st < 5) (d : Nat → Nat) : wsum (gEn b g ev ms fi (5 * pl + st)) d (80 - 5 * nx) (5 * nx) = eN (gE b g ev ms fi (5 * pl + st) (5 * nx + st)) * d (5 * nx + st) + (if st + 1 < 5 then eN (gE b g ev ms fi (5 * pl + st) (5 * nx + (st + 1))) * d (5 * nx + (st + 1)) else 0) + wsum (gEn b g ev ms fi (5 * pl + st)) d (80 - 5 * (nx + 1)) (5 * (nx + 1)) := by
  have e := wsum_block (Y := gEn b g ev ms fi (5 * pl + st)) (d := d) (k := 80 - 5 * (nx + 1)) (p := nx) (s := st) h4 (fun j h5 h6 h7 => gEn_0 (fun h => by have q := (gE_f h).2.2.2.2; omega))
  rw [show 80 - 5 * (nx + 1) + 5 = 80 - 5 * nx by omega] at e
  exact e
/-- how a match may go on -/
theorem lk_on (A : Ag a f b g ev n ms) (lt : Bool) {fi pl st : Nat} (h1 : fi ≤ pl) (hpn : pl < n) (h4 : st < ms) {w : Nat → Nat → Int32} (hw : ∀ p s, pl < p → p < n → s < ms → w p s = nI (gW b g ev ms ((ev - 16) + fi) lt p s)) : ∀ k nx x, n < nx + k → nx ≤ n → pl < nx →
    xOnL a f w n ms fi pl st k nx (nI x) = nI (x + wsum (gEn b g ev ms ((ev - 16) + fi) (5 * pl + st)) (bI80 (gEn b g ev ms ((ev - 16) + fi)) (gBa ev ms lt)) (80 - 5 * nx) (5 * nx)) := by
  have hn : n ≤ 16 := by have := A.1; omega
  have hm : ms ≤ 5 := A.2.1
  intro k
  induction k with
  | zero => intro nx x h5 h6 h7; omega
  | succ k ih =>
    intro nx x h5 h6 h7
    by_cases hc : nx < n ∧ xMay a f fi pl nx = true
    · rw [xOnL, if_pos hc, lk_same A h1 h7 hc.1 h4 hc.2 (hw nx st h7 hc.1 h4), lk_next A h1 h7 hc.1 h4 hc.2 (fun h => hw nx (st + 1) h7 hc.1 h), nI_add, nI_add, ih (nx + 1) _ (by omega) (by omega) (by omega), lk_step (nx := nx) (by omega) (by omega)]
      unfold gW
      congr 1
      omega
    · rw [xOnL, if_neg hc, wsum_zero _ _ (fun j q1 q2 => lk_no A h1 h7 hpn h4 hc j q1), Nat.add_zero]
theorem lk_bI (x : Bool) : bI x = nI (eN x) := by cases x <;> rfl
theorem lk_xOn (A : Ag a f b g ev n ms) (lt : Bool) (lo : Int32) (hlo : ∀ pl, pl < n → (!decide (nI pl < lo)) = (!lt || decide ((ev - 16) + pl + 1 = ev))) {fi pl st : Nat} (h1 : fi ≤ pl) (hpn : pl < n) (h4 : st < ms) {w : Nat → Nat → Int32} (hw : ∀ p s, pl < p → p < n → s < ms → w p s = nI (gW b g ev ms ((ev - 16) + fi) lt p s)) :
    xOn a f w n ms fi pl st lo = nI (gW b g ev ms ((ev - 16) + fi) lt pl st) := by
  have hn : n ≤ 16 := by have := A.1; omega
  have hm : ms ≤ 5 := A.2.1
  unfold xOn
  rw [lk_bI, lk_on A lt h1 hpn h4 hw (n + 1) (pl + 1) _ (by omega) (by omega) (by omega), hlo pl hpn]
  unfold gW
  rw [bI80_eq _ _ (show 5 * pl + st < 80 by omega), show 79 - (5 * pl + st) = (4 - st) + (80 - 5 * (pl + 1)) by omega, wsum_split, wsum_zero (4 - st) _ (fun j q1 q2 => gEn_0 (fun h => by have q := (gE_f h).1; omega)), Nat.zero_add, show 5 * pl + st + 1 + (4 - st) = 5 * (pl + 1) by omega]
  congr 2
  unfold gBa
  rw [show (5 * pl + st) % 5 = st by omega, show (5 * pl + st) / 5 = pl by omega]
theorem lk_fromI (A : Ag a f b g ev n ms) (lt : Bool) (lo : Int32) (hlo : ∀ pl, pl < n → (!decide (nI pl < lo)) = (!lt || decide ((ev - 16) + pl + 1 = ev))) {fi pl : Nat} (h1 : fi ≤ pl) (hpn : pl < n) : ∀ k st (w : Nat → Nat → Int32), ms < st + k → (∀ p s, pl < p → p < n → s < ms → w p s = nI (gW b g ev ms ((ev - 16) + fi) lt p s)) → (∀ s, s < st → s < ms → w pl s = nI (gW b g ev ms ((ev - 16) + fi) lt pl s)) →
    ∀ p s, pl ≤ p → p < n → s < ms → xFromI a f n ms fi pl lo k st w p s = nI (gW b g ev ms ((ev - 16) + fi) lt p s) := by
  intro k
  induction k with
  | zero =>
    intro st w h2 h3 h4 p s h5 h6 h7
    rcases Nat.lt_or_ge pl p with h8 | h8
    · exact h3 p s h8 h6 h7
    · rw [show p = pl by omega]; exact h4 s (by omega) h7
  | succ k ih =>
    intro st w h2 h3 h4 p s h5 h6 h7
    by_cases h : st < ms
    · rw [xFromI, if_pos h]
      refine ih (st + 1) _ (by omega) (fun p s q1 q2 q3 => ?_) (fun s q1 q2 => ?_) p s h5 h6 h7
      · rw [va_up_ne _ _ (by omega)]; exact h3 p s q1 q2 q3
      · rw [va_up_self]
        rcases Nat.lt_or_ge s st with h8 | h8
        · rw [pk_un (by omega)]; exact h4 s h8 q2
        · rw [show s = st by omega, pk_us]; exact lk_xOn A lt lo hlo h1 hpn h h3
    · rw [xFromI, if_neg h]
      rcases Nat.lt_or_ge pl p with h8 | h8
      · exact h3 p s h8 h6 h7
      · rw [show p = pl by omega]; exact h4 s (by omega) h7
theorem lk_fromO (A : Ag a f b g ev n ms) (lt : Bool) (lo : Int32) (hlo : ∀ pl, pl < n → (!decide (nI pl < lo)) = (!lt || decide ((ev - 16) + pl + 1 = ev))) {fi : Nat} : ∀ k (w : Nat → Nat → Int32), k ≤ n → (∀ p s, k ≤ p → p < n → s < ms → w p s = nI (gW b g ev ms ((ev - 16) + fi) lt p s)) →
    ∀ p s, fi ≤ p → p < n → s < ms → xFromO a f n ms fi lo k w p s = nI (gW b g ev ms ((ev - 16) + fi) lt p s) := by
  intro k
  induction k with
  | zero => intro w h1 h2 p s h3 h4 h5; exact h2 p s (by omega) h4 h5
  | succ k ih =>
    intro w h1 h2 p s h3 h4 h5
    by_cases h : fi ≤ k
    · rw [xFromO, if_pos h]
      exact ih _ (by omega) (lk_fromI A lt lo hlo h (by omega) (ms + 1) 0 w (by omega) (fun p s q1 q2 q3 => h2 p s q1 q2 q3) (fun s q1 q2 => absurd q1 (by omega))) p s h3 h4 h5
    · rw [xFromO, if_neg h]
      exact h2 p s (by omega) h4 h5
theorem lk_fromR (A : Ag a f b g ev n ms) (h0 : 1 ≤ ms) (lt : Bool) (lo : Int32) (hlo : ∀ pl, pl < n → (!decide (nI pl < lo)) = (!lt || decide ((ev - 16) + pl + 1 = ev))) {fi : Nat} (h1 : fi < n) (w : Nat → Nat → Int32) : xFromR a f n ms fi lo w = nI (gF b g ev ms lt ((ev - 16) + fi)) := by
  unfold xFromR gF
  rw [lk_fit0 A h0 h1]
  split
  · rw [lk_fromO A lt lo hlo n w (Nat.le_refl n) (fun p s q1 q2 q3 => absurd q1 (by omega)) fi 0 (Nat.le_refl _) h1 (by omega), show (ev - 16) + fi - (ev - 16) = fi by omega]
  · rfl
theorem lk_cnt (A : Ag a f b g ev n ms) (h0 : 1 ≤ ms) (lt : Bool) (lo : Int32) (hlo : ∀ pl, pl < n → (!decide (nI pl < lo)) = (!lt || decide ((ev - 16) + pl + 1 = ev))) : ∀ k fi x (w : Nat → Nat → Int32), n < fi + k → fi ≤ n → (xCntL a f n ms lo k fi (nI x) w).1 = nI (x + gAll b g ev ms lt (n - fi) ((ev - 16) + fi)) := by
  intro k
  induction k with
  | zero => intro fi x w h1 h2; omega
  | succ k ih =>
    intro fi x w h1 h2
    by_cases h : fi < n
    · rw [xCntL, if_pos h, lk_fromR A h0 lt lo hlo h, nI_add, ih (fi + 1) _ _ (by omega) (by omega), show n - fi = (n - (fi + 1)) + 1 by omega, gAll, Nat.add_assoc]
      rfl
    · rw [xCntL, if_neg h, show n - fi = 0 by omega]; rfl
end LK
