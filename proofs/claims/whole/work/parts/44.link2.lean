/-! THE TWO STATES AGREE: the match that is found -/
def Rs (ev : Nat) (X : XS) (M : MS) : Prop := ∃ L, L ≤ 16 ∧ X.2.1 5 = nI L ∧ M.2 5 = nI L ∧ ∀ j, j < L → ∃ p, p < 16 ∧ X.1 7 j = nI p ∧ M.1 8 j = nI ((ev - 16) + p) ∧ X.1 8 j = M.1 9 j
section LK2
variable {n ev ms : Nat}
theorem Ag.same {a a2 b b2 : Nat → Nat → Int32} {f f2 g g2 : Nat → Int32} (A : Ag a f b g ev n ms) (h1 : ∀ i, i ≤ 6 → a2 i = a i) (h2 : ∀ i, i ≠ 5 → 1 ≤ i → f2 i = f i) (h3 : ∀ i, i ≤ 6 → b2 i = b i) (h4 : ∀ i, i ≠ 5 → 1 ≤ i → g2 i = g i) : Ag a2 f2 b2 g2 ev n ms := by
  obtain ⟨hn, hm, e2, e3, hsy, hsp, hev, hst, hs, hb⟩ := A
  refine ⟨hn, hm, ?_, ?_, ?_, ?_, fun i p q1 q2 => ?_, fun i s q1 q2 q3 => ?_, fun i j q1 q2 => ?_, fun i q1 => ?_⟩
  · rw [h2 2 (by omega) (by omega), h4 2 (by omega) (by omega), e2]
  · rw [h2 3 (by omega) (by omega), h4 3 (by omega) (by omega), e3]
  · rw [h4 2 (by omega) (by omega)]; exact hsy
  · rw [h4 3 (by omega) (by omega)]; exact hsp
  · rw [h1 i (by omega), h3 i (by omega)]; exact hev i p q1 q2
  · rw [h1 i q2, h3 i q2]; exact hst i s q1 q2 q3
  · rw [h3 0 (by omega)]; exact hs i j q1 q2
  · rw [h3 0 (by omega)]; exact hb i q1
theorem gW_a (b : Nat → Nat → Int32) (g : Nat → Int32) (L e st ev ms fi : Nat) (lt : Bool) (p s : Nat) (x : Int32) : gW (mAdd b L e st) (va_up g 5 x) ev ms fi lt p s = gW b g ev ms fi lt p s := gW_c (b := b) (b2 := mAdd b L e st) (g := g) (g2 := va_up g 5 x) (fun i hi => mAdd_lo hi) rfl rfl ev ms fi lt p s
theorem gW_5 (b : Nat → Nat → Int32) (g : Nat → Int32) (ev ms fi : Nat) (lt : Bool) (p s : Nat) (x : Int32) : gW b (va_up g 5 x) ev ms fi lt p s = gW b g ev ms fi lt p s := gW_c (b := b) (b2 := b) (g := g) (g2 := va_up g 5 x) (fun i hi => rfl) rfl rfl ev ms fi lt p s
/-- what the walk knows of the two states -/
def Wk (w : Nat → Nat → Int32) (fi : Nat) (a : Nat → Nat → Int32) (f : Nat → Int32) (b : Nat → Nat → Int32) (g : Nat → Int32) (ev n ms L : Nat) : Prop :=
  Ag a f b g ev n ms ∧ (∀ p s, fi ≤ p → p < n → s < ms → w p s = nI (gW b g ev ms ((ev - 16) + fi) false p s)) ∧ f 5 = nI L ∧ g 5 = nI L ∧ ∀ j, j < L → ∃ p, p < 16 ∧ a 7 j = nI p ∧ b 8 j = nI ((ev - 16) + p) ∧ a 8 j = b 9 j
theorem Wk.add {w : Nat → Nat → Int32} {fi : Nat} {a b : Nat → Nat → Int32} {f g : Nat → Int32} {L : Nat} (h : Wk w fi a f b g ev n ms L) (nx st : Nat) (hnx : nx < 16) : Wk w fi (xAddA a L nx st) (va_up f 5 (nI (L + 1))) (mAdd b L ((ev - 16) + nx) st) (va_up g 5 (nI (L + 1))) ev n ms (L + 1) := by
  obtain ⟨A, hw, h5, h6, hr⟩ := h
  refine ⟨A.same (fun i hi => xAddA_lo hi) (fun i hi _ => va_up_ne _ _ hi) (fun i hi => mAdd_lo hi) (fun i hi _ => va_up_ne _ _ hi), fun p s q1 q2 q3 => ?_, va_up_self _ _ _, va_up_self _ _ _, fun j hj => ?_⟩
  · rw [gW_a]; exact hw p s q1 q2 q3
  · have e1 : xAddA a L nx st 7 = upd (a 7) L (nI nx) := rfl
    have e2 : xAddA a L nx st 8 = upd (a 8) L (nI st) := rfl
    have e3 : mAdd b L ((ev - 16) + nx) st 8 = upd (b 8) L (nI ((ev - 16) + nx)) := rfl
    have e4 : mAdd b L ((ev - 16) + nx) st 9 = upd (b 9) L (nI st) := rfl
    rw [e1, e2, e3, e4]
    by_cases q : j = L
    · rw [q, pk_us, pk_us, pk_us, pk_us]; exact ⟨nx, hnx, rfl, rfl, rfl⟩
    · rw [pk_un q, pk_un q, pk_un q, pk_un q]; exact hr j (by omega)
theorem Wk.rs {w : Nat → Nat → Int32} {fi : Nat} {a b : Nat → Nat → Int32} {f g : Nat → Int32} {L : Nat} (h : Wk w fi a f b g ev n ms L) (hL : L ≤ 16) : Rs ev (a, f, w) (b, g) := ⟨L, hL, h.2.2.1, h.2.2.2.1, h.2.2.2.2⟩
/-- the search for the next event, with the rest of the walk behind it -/
def Pk (w : Nat → Nat → Int32) (ev n ms fi k : Nat) : Prop := ∀ (nx pl st Lf L kk : Nat) (a b : Nat → Nat → Int32) (f g : Nat → Int32), Wk w fi a f b g ev n ms L → fi ≤ pl → pl < nx → nx < n → st < ms → n ≤ nx + k → n ≤ nx + kk → L + fi ≤ nx → Lf < mRest b g ev ms ((ev - 16) + fi) ((ev - 16) + pl) st (n - nx) ((ev - 16) + nx) →
  Rs ev (xWalkG (xWalkL w n ms fi k) w ms fi nx (nI Lf) pl st L a f) (mStep (mPathL ev ms ((ev - 16) + fi) kk) (mPick b g ev ms ((ev - 16) + fi) ((ev - 16) + pl) st (n - nx) ((ev - 16) + nx) Lf) L b g)
theorem mRest_le (b : Nat → Nat → Int32) (g : Nat → Int32) (ev ms fi e1 st : Nat) (hb : ev - 16 ≤ e1) (he : e1 < ev) (hst : st < ms) (hms : ms ≤ 5) (hsy : g 2 = 0 ∨ g 2 = 1) : ∀ k nx, nx + k = ev → e1 < nx → mRest b g ev ms fi e1 st k nx ≤ 3 ^ 15 := by
  have hz : mRest b g ev ms fi e1 st (ev - (e1 + 1)) (e1 + 1) ≤ 3 ^ 15 := by
    have h1 := gW_rest (b := b) (g := g) (fi := fi) hb he hst hms hsy
    have h2 := gW_le b g ev ms fi false (p := e1 - (ev - 16)) (s0 := st) (by omega)
    omega
  have hz2 : ∀ d, e1 + 1 + d ≤ ev → mRest b g ev ms fi e1 st (ev - (e1 + 1 + d)) (e1 + 1 + d) ≤ 3 ^ 15 := by
    intro d
    induction d with
    | zero => intro _; exact hz
    | succ d ih =>
      intro hd
      have h1 := ih (by omega)
      rw [show ev - (e1 + 1 + d) = (ev - (e1 + 1 + (d + 1))) + 1 by omega, mRest] at h1
      exact Nat.le_trans (Nat.le_add_left _ _) h1
  intro k nx h1 h2
  have h3 := hz2 (nx - (e1 + 1)) (by omega)
  rw [show e1 + 1 + (nx - (e1 + 1)) = nx by omega, show ev - nx = k by omega] at h3
  exact h3
theorem lk_head {w : Nat → Nat → Int32} {fi k : Nat} (P : Pk w ev n ms fi k) {pl st Lf L kk : Nat} {a b : Nat → Nat → Int32} {f g : Nat → Int32} (hW : Wk w fi a f b g ev n ms L) (h1 : fi ≤ pl) (h2 : pl < n) (h3 : st < ms) (h4 : n ≤ pl + 1 + k) (h5 : n ≤ pl + 1 + kk) (h6 : L + fi ≤ pl + 1) (h7 : Lf < gW b g ev ms ((ev - 16) + fi) false pl st) :
    Rs ev (xWalkL w n ms fi (k + 1) (pl + 1) (nI Lf) pl st L a f) (mPathL ev ms ((ev - 16) + fi) (kk + 1) ((ev - 16) + pl) st Lf L b g) := by
  have hn : n = ev - (ev - 16) := hW.1.1
  have hm : ms ≤ 5 := hW.1.2.1
  have hsy : g 2 = 0 ∨ g 2 = 1 := hW.1.2.2.2.2.1
  have hle := gW_le b g ev ms ((ev - 16) + fi) false (p := pl) (s0 := st) (by omega)
  have hr := gW_rest (b := b) (g := g) (ev := ev) (ms := ms) (fi := (ev - 16) + fi) (e1 := (ev - 16) + pl) (st := st) (by omega) (by omega) h3 hm hsy
  rw [show (ev - 16) + pl - (ev - 16) = pl by omega, show ev - ((ev - 16) + pl + 1) = n - (pl + 1) by omega, show (ev - 16) + pl + 1 = (ev - 16) + (pl + 1) by omega] at hr
  have stop : Rs ev (a, f, w) (b, g) := hW.rs (by omega)
  have l31 : Lf < 2 ^ 31 := Nat.lt_of_lt_of_le h7 (Nat.le_trans hle (by decide))
  rw [mPathL, show ev - ((ev - 16) + pl + 1) = n - (pl + 1) by omega, show (ev - 16) + pl + 1 = (ev - 16) + (pl + 1) by omega, xWalkL]
  have hnz : ∀ x, x < mRest b g ev ms ((ev - 16) + fi) ((ev - 16) + pl) st (n - (pl + 1)) ((ev - 16) + (pl + 1)) → pl + 1 < n := by
    intro x hx
    rcases Nat.lt_or_ge (pl + 1) n with h | h
    · exact h
    · rw [show n - (pl + 1) = 0 by omega, mRest] at hx; omega
  by_cases hl : st + 1 = ms
  · rw [if_pos hl] at hr
    rw [if_pos hl]
    by_cases hz : Lf = 0
    · rw [if_neg (show ¬ (st + 1 < ms ∨ 0 < Lf) by omega), if_pos (⟨rfl, hl⟩ : pl + 1 = pl + 1 ∧ st + 1 = ms), if_pos (show nI Lf = 0 by rw [hz]; rfl)]
      split
      · exact stop
      · exact stop
    · have hlt : Lf - 1 < mRest b g ev ms ((ev - 16) + fi) ((ev - 16) + pl) st (n - (pl + 1)) ((ev - 16) + (pl + 1)) := by omega
      rw [if_pos (show st + 1 < ms ∨ 0 < Lf by omega), if_pos (hnz _ hlt), if_pos (⟨rfl, hl⟩ : pl + 1 = pl + 1 ∧ st + 1 = ms), if_neg (nI_ne0 (by omega) l31), nr_dec (by omega)]
      exact P (pl + 1) pl st (Lf - 1) L kk a b f g hW h1 (by omega) (hnz _ hlt) h3 h4 h5 h6 hlt
  · rw [if_neg hl, Nat.zero_add] at hr
    rw [hr] at h7
    rw [if_neg hl, if_pos (show st + 1 < ms ∨ 0 < Lf by omega), if_pos (hnz _ h7), if_neg (fun h => hl h.2)]
    exact P (pl + 1) pl st Lf L kk a b f g hW h1 (by omega) (hnz _ h7) h3 h4 h5 h6 h7
theorem lk_pick (w : Nat → Nat → Int32) (ev n ms fi : Nat) : ∀ k, Pk w ev n ms fi k := by
  intro k
  induction k with
  | zero => intro nx pl st Lf L kk a b f g hW h1 h2 h3 h4 h5; omega
  | succ k ih =>
    intro nx pl st Lf L kk a b f g hW h1 h2 h3 h4 h5 h6 h7 h8
    obtain ⟨kk, rfl⟩ : ∃ j, kk = j + 1 := ⟨kk - 1, by omega⟩
    have hn : n = ev - (ev - 16) := hW.1.1
    have hm : ms ≤ 5 := hW.1.2.1
    have hsy : g 2 = 0 ∨ g 2 = 1 := hW.1.2.2.2.2.1
    have hle := mRest_le b g ev ms ((ev - 16) + fi) ((ev - 16) + pl) st (by omega) (by omega) h4 hm hsy (n - nx) ((ev - 16) + nx) (by omega) (by omega)
    have p31 : (3 : Nat) ^ 15 < 2 ^ 30 := by decide
    generalize hM : (3 : Nat) ^ 15 = M at hle p31
    have hmay : xMay a f fi pl nx = true := by
      cases hc : xMay a f fi pl nx with
      | true => rfl
      | false =>
        exfalso
        have hr := mRest_eq (b := b) (g := g) (ev := ev) (ms := ms) (fi := (ev - 16) + fi) (e1 := (ev - 16) + pl) (st := st) (by omega) h4 hm hsy (n - nx) ((ev - 16) + nx) (by omega) (by omega)
        rw [show (ev - 16) + pl - (ev - 16) = pl by omega, show (ev - 16) + nx - (ev - 16) = nx by omega, wsum_zero _ _ (fun j q1 q2 => lk_no hW.1 h1 h2 (by omega) h4 (by rintro ⟨q, q'⟩; rw [hc] at q'; cases q') j q1)] at hr
        omega
    have x1 : xSame a w fi pl st nx = nI (mF1 b g ev ms ((ev - 16) + fi) ((ev - 16) + pl) st ((ev - 16) + nx)) := by
      rw [lk_same hW.1 h1 h2 h3 h4 hmay (hW.2.1 nx st (by omega) h3 h4)]
      have q := gE_same (b := b) (g := g) (ev := ev) (ms := ms) (fi := (ev - 16) + fi) (e1 := (ev - 16) + pl) (st := st) (nx := (ev - 16) + nx) (by omega) (by omega) (by omega) h4 hm hsy
      rw [show (ev - 16) + pl - (ev - 16) = pl by omega, show (ev - 16) + nx - (ev - 16) = nx by omega] at q
      rw [q, eN_mul, mF1, show (ev - 16) + nx - (ev - 16) = nx by omega]
    have x2 : xNext a w ms fi pl st nx = nI (mF2 b g ev ms ((ev - 16) + fi) ((ev - 16) + pl) st ((ev - 16) + nx)) := by
      rw [lk_next hW.1 h1 h2 h3 h4 hmay (fun h => hW.2.1 nx (st + 1) (by omega) h3 h)]
      by_cases h5 : st + 1 < 5
      · have q := gE_next (b := b) (g := g) (ev := ev) (ms := ms) (fi := (ev - 16) + fi) (e1 := (ev - 16) + pl) (st := st) (nx := (ev - 16) + nx) (by omega) (by omega) (by omega) h4 hm hsy h5
        rw [show (ev - 16) + pl - (ev - 16) = pl by omega, show (ev - 16) + nx - (ev - 16) = nx by omega] at q
        rw [if_pos h5, q, eN_mul, mF2, show (ev - 16) + nx - (ev - 16) = nx by omega]
      · rw [if_neg h5, mF2, decide_eq_false (show ¬ st + 1 < ms by omega), Bool.false_and]; rfl
    have g1 : Lf < mF1 b g ev ms ((ev - 16) + fi) ((ev - 16) + pl) st ((ev - 16) + nx) → Lf < gW b g ev ms ((ev - 16) + fi) false nx st := by
      intro h
      unfold mF1 at h
      rw [show (ev - 16) + nx - (ev - 16) = nx by omega] at h
      split at h
      · exact h
      · omega
    have g2 : Lf - mF1 b g ev ms ((ev - 16) + fi) ((ev - 16) + pl) st ((ev - 16) + nx) < mF2 b g ev ms ((ev - 16) + fi) ((ev - 16) + pl) st ((ev - 16) + nx) → st + 1 < ms ∧ Lf - mF1 b g ev ms ((ev - 16) + fi) ((ev - 16) + pl) st ((ev - 16) + nx) < gW b g ev ms ((ev - 16) + fi) false nx (st + 1) := by
      intro h
      generalize mF1 b g ev ms ((ev - 16) + fi) ((ev - 16) + pl) st ((ev - 16) + nx) = z at h ⊢
      unfold mF2 at h
      rw [show (ev - 16) + nx - (ev - 16) = nx by omega] at h
      split at h
      · rename_i h9
        rw [Bool.and_eq_true, decide_eq_true_eq] at h9
        exact ⟨h9.1, h⟩
      · omega
    rw [show n - nx = (n - (nx + 1)) + 1 by omega, mRest] at h8 hle
    rw [show n - nx = (n - (nx + 1)) + 1 by omega, mPick]
    unfold xWalkG
    rw [if_neg (by rw [hmay]; decide), x1, x2, nI_add]
    generalize mF1 b g ev ms ((ev - 16) + fi) ((ev - 16) + pl) st ((ev - 16) + nx) = z1 at g1 g2 h8 hle ⊢
    generalize mF2 b g ev ms ((ev - 16) + fi) ((ev - 16) + pl) st ((ev - 16) + nx) = z2 at g1 g2 h8 hle ⊢
    by_cases c1 : Lf < z1
    · rw [if_pos (nI_lt (by omega) (by omega)), if_pos (nI_lt c1 (by omega)), if_pos c1]
      unfold mStep
      refine lk_head ih (hW.add nx st (by omega)) (by omega) h3 h4 (by omega) (by omega) (by omega) ?_
      exact (gW_a b g L _ _ ev ms _ false nx st _).symm ▸ g1 c1
    · by_cases c2 : Lf - z1 < z2
      · obtain ⟨c3, c4⟩ := g2 c2
        rw [if_pos (nI_lt (by omega) (by omega)), if_neg (nI_nlt (by omega) (by omega)), if_neg c1, if_pos c2, pk_sub (by omega)]
        unfold mStep
        refine lk_head ih (hW.add nx (st + 1) (by omega)) (by omega) h3 c3 (by omega) (by omega) (by omega) ?_
        exact (gW_a b g L _ _ ev ms _ false nx (st + 1) _).symm ▸ c4
      · rw [if_neg (nI_nlt (by omega) (by omega)), if_neg c1, if_neg c2, pk_sub (by omega)]
        rw [show Lf - (z1 + z2) = Lf - z1 - z2 by omega]
        have c5 : Lf - z1 - z2 < mRest b g ev ms ((ev - 16) + fi) ((ev - 16) + pl) st (n - (nx + 1)) ((ev - 16) + nx + 1) := by omega
        have c6 : nx + 1 < n := by
          rcases Nat.lt_or_ge (nx + 1) n with h | h
          · exact h
          · rw [show n - (nx + 1) = 0 by omega, mRest] at c5; omega
        rw [xWalkL, if_pos c6, if_neg (fun h => by omega)]
        exact ih (nx + 1) pl st (Lf - z1 - z2) L (kk + 1) a b f g hW h1 (by omega) c6 h4 (by omega) (by omega) (by omega) c5
/-- which match it is -/
theorem lk_find {a b : Nat → Nat → Int32} {f g : Nat → Int32} (A : Ag a f b g ev n ms) (h0 : 1 ≤ ms) : ∀ k fi Lf (w : Nat → Nat → Int32), n < fi + k → fi ≤ n → Lf < 2 ^ 31 →
    (mSel b g ev ms (n - fi) ((ev - 16) + fi) Lf = none → (xFindL a f n ms k fi (nI Lf) w).1 = false ∧ (xFindL a f n ms k fi (nI Lf) w).2.1 = a ∧ (xFindL a f n ms k fi (nI Lf) w).2.2.1 = f) ∧ (∀ e2 L2, mSel b g ev ms (n - fi) ((ev - 16) + fi) Lf = some (e2, L2) → (xFindL a f n ms k fi (nI Lf) w).1 = true ∧ Rs ev (xFindL a f n ms k fi (nI Lf) w).2 (mPath b g ev ms e2 L2)) := by
  have hn : n = ev - (ev - 16) := A.1
  have hm : ms ≤ 5 := A.2.1
  have hlo : ∀ pl, pl < n → (!decide (nI pl < (0 : Int32))) = (!false || decide ((ev - 16) + pl + 1 = ev)) := fun pl h => by rw [decide_eq_false (nI_pos (by omega))]; rfl
  intro k
  induction k with
  | zero => intro fi Lf w h1 h2 h3; omega
  | succ k ih =>
    intro fi Lf w h1 h2 h3
    by_cases h : fi < n
    · have hF := lk_fromR A h0 false 0 hlo h w
      have hle := gF_le b g ev ms false (fi := (ev - 16) + fi) (by omega)
      have p31 : (3 : Nat) ^ 15 < 2 ^ 30 := by decide
      rw [xFindL, if_pos h, show n - fi = (n - (fi + 1)) + 1 by omega, mSel, hF]
      by_cases h4 : Lf < gF b g ev ms false ((ev - 16) + fi)
      · rw [if_pos h4, if_pos (nI_lt h4 (by omega))]
        refine ⟨fun q => (by cases q), fun e2 L2 q => ?_⟩
        cases q
        refine ⟨rfl, ?_⟩
        obtain ⟨q1, q2⟩ := gF_some h4
        rw [show (ev - 16) + fi - (ev - 16) = fi by omega] at q2
        have hw : ∀ p s, fi ≤ p → p < n → s < ms → xFromW a f n ms fi 0 w p s = nI (gW b g ev ms ((ev - 16) + fi) false p s) := by
          intro p s r1 r2 r3
          unfold xFromW
          rw [lk_fit0 A h0 h] at q1
          rw [if_pos q1]
          exact lk_fromO A false 0 hlo n w (Nat.le_refl n) (fun p s q1 q2 q3 => absurd q1 (by omega)) p s r1 r2 r3
        have hW0 : Wk (xFromW a f n ms fi 0 w) fi a (va_up f 5 0) b (va_up g 5 0) ev n ms 0 := ⟨A.same (fun _ _ => rfl) (fun i hi _ => va_up_ne _ _ hi) (fun _ _ => rfl) (fun i hi _ => va_up_ne _ _ hi), fun p s r1 r2 r3 => by rw [gW_5]; exact hw p s r1 r2 r3, va_up_self _ _ _, va_up_self _ _ _, fun j hj => absurd hj (by omega)⟩
        exact lk_head (kk := ev) (k := n) (lk_pick _ ev n ms fi n) (hW0.add fi 0 (by omega)) (Nat.le_refl _) h h0 (by omega) (by omega) (by omega) (by rw [gW_a, gW_5]; exact q2)
      · rw [if_neg h4, if_neg (nI_nlt (by omega) h3), pk_sub (by omega)]
        exact ih (fi + 1) _ _ (by omega) (by omega) (by omega)
    · rw [xFindL, if_neg h, show n - fi = 0 by omega, mSel]
      exact ⟨fun _ => ⟨rfl, rfl, rfl⟩, fun _ _ q => by cases q⟩
theorem lk_xFind {a b : Nat → Nat → Int32} {f g : Nat → Int32} (A : Ag a f b g ev n ms) (h0 : 1 ≤ ms) (w : Nat → Nat → Int32) (kv : Int32) :
    (mFnd b g ev ms kv = none → (xFind a f w n ms kv).1 = false ∧ (xFind a f w n ms kv).2.1 = a ∧ (xFind a f w n ms kv).2.2.1 = f) ∧ (∀ e2 L2, mFnd b g ev ms kv = some (e2, L2) → (xFind a f w n ms kv).1 = true ∧ Rs ev (xFind a f w n ms kv).2 (mPath b g ev ms e2 L2)) := by
  unfold mFnd xFind
  by_cases h : kv < 0
  · rw [if_pos h, if_pos h]; exact ⟨fun _ => ⟨rfl, rfl, rfl⟩, fun _ _ q => by cases q⟩
  · rw [if_neg h, if_neg h]
    obtain ⟨j, hj, rfl⟩ := nI_of h
    rw [nI_clamp hj, ← A.1]
    exact lk_find A h0 (n + 1) 0 j w (by omega) (by omega) hj
end LK2
