/-! THE TWO STATES AGREE: one call of each -/
def Ln (a : Nat → Nat → Int32) (f : Nat → Int32) (b : Nat → Nat → Int32) (g : Nat → Int32) (ev n ms : Nat) : Prop :=
  Ag a f b g ev n ms ∧ ev ≤ 400 ∧ f 0 = nI ev ∧ f 1 = nI n ∧ f 4 = nI ms ∧ g 1 = nI ev ∧ g 4 = nI ms
section LK3
variable {n ev ms : Nat} {a b : Nat → Nat → Int32} {f g : Nat → Int32}
theorem Ln.same (A : Ln a f b g ev n ms) {a2 b2 : Nat → Nat → Int32} {f2 g2 : Nat → Int32} (h1 : ∀ i, i ≤ 6 → a2 i = a i) (h2 : ∀ i, i ≠ 5 → f2 i = f i) (h3 : ∀ i, i ≤ 6 → b2 i = b i) (h4 : ∀ i, i ≠ 5 → 1 ≤ i → g2 i = g i) : Ln a2 f2 b2 g2 ev n ms := by
  obtain ⟨A, h5, h6, h7, h8, h9, h10⟩ := A
  exact ⟨A.same h1 (fun i q _ => h2 i q) h3 h4, h5, by rw [h2 0 (by omega), h6], by rw [h2 1 (by omega), h7], by rw [h2 4 (by omega), h8], by rw [h4 1 (by omega) (by omega), h9], by rw [h4 4 (by omega) (by omega), h10]⟩
theorem up0 {x : Int32} : ∀ i, i ≠ 5 → 1 ≤ i → va_up g 0 x i = g i := fun i _ h => va_up_ne _ _ (by omega)
theorem Ln.lo (A : Ln a f b g ev n ms) : n ≤ 16 ∧ n ≤ ev ∧ ev - n = ev - 16 ∧ ms ≤ 5 ∧ (g 2 = 0 ∨ g 2 = 1) := ⟨by have := A.1.1; omega, by have := A.1.1; omega, by have := A.1.1; omega, A.1.2.1, A.1.2.2.2.2.1⟩
theorem lk_xLate (A : Ag a f b g ev n ms) : xLate a n = mLate b ev := by
  obtain ⟨hn, hm, e2, e3, hsy, hsp, hev, hst, hs, hb⟩ := A
  unfold xLate mLate
  by_cases h : ev = 0
  · rw [if_pos h, if_pos (by omega)]
  · rw [if_neg h, if_neg (by omega), hev 0 (n - 1) (by omega) (by omega), show ev - 16 + (n - 1) = ev - 1 by omega]
theorem lk_iIn {v lo hi : Int32} : iIn v lo hi = true ↔ ¬ v < lo ∧ ¬ hi < v := by
  unfold iIn
  rw [Bool.and_eq_true, Bool.not_eq_true', Bool.not_eq_true', decide_eq_false_iff_not, decide_eq_false_iff_not]
theorem lk_bad {x y z : Bool} (h : x = true) : mTh x y z = 1 := by unfold mTh; rw [if_pos h]
theorem lk_ful {x y z : Bool} (h : x = false) (h2 : y = true) : mTh x y z = 2 := by unfold mTh; rw [h, if_neg (by decide), if_pos h2]
theorem lk_good {x y z : Bool} (h : x = false) (h2 : y = false) (h3 : z = false) : mTh x y z = 0 := by rw [h, h2, h3]; rfl
theorem lk_evT (A : Ag a f b g ev n ms) {tm kd : Int32} : (!(iIn tm (mLate b ev) 1000000 && iIn kd 0 7)) = true ↔ evBad a n tm kd := by
  rw [Bool.not_eq_true', ← Bool.not_eq_true, Bool.and_eq_true, lk_iIn, lk_iIn]
  unfold evBad
  rw [lk_xLate A]
  constructor
  · intro h
    by_cases h1 : tm < mLate b ev
    · exact Or.inl h1
    · by_cases h2 : 1000000 < tm
      · exact Or.inr (Or.inl h2)
      · by_cases h3 : kd < 0
        · exact Or.inr (Or.inr (Or.inl h3))
        · by_cases h4 : 7 < kd
          · exact Or.inr (Or.inr (Or.inr h4))
          · exact absurd ⟨⟨h1, h2⟩, h3, h4⟩ h
  · rintro (h | h | h | h) ⟨⟨q1, q2⟩, q3, q4⟩
    · exact q1 h
    · exact q2 h
    · exact q3 h
    · exact q4 h
theorem lk_dropF : ∀ (k pl : Nat) (a : Nat → Nat → Int32), 1 ≤ pl → pl ≤ 16 → 16 ≤ pl + k → (∀ i, 3 ≤ i → xDropL k pl a i = a i) ∧ (∀ i p, i ≤ 2 → p + 1 < pl → xDropL k pl a i p = a i p) ∧ (∀ i p, i ≤ 2 → pl ≤ p + 1 → p < 15 → xDropL k pl a i p = a i (p + 1)) := by
  intro k
  induction k with
  | zero => intro pl a h1 h2 h3; exact ⟨fun _ _ => rfl, fun _ _ _ _ => rfl, fun i p _ q1 q2 => by omega⟩
  | succ k ih =>
    intro pl a h1 h2 h3
    by_cases h : pl < 16
    · rw [xDropL, if_pos h]
      obtain ⟨i1, i2, i3⟩ := ih (pl + 1) (xDropS a pl) (by omega) (by omega) (by omega)
      have e : ∀ i, i ≤ 2 → xDropS a pl i = upd (a i) (pl - 1) (a i pl) := by
        intro i hi
        rcases (show i = 0 ∨ i = 1 ∨ i = 2 by omega) with rfl | rfl | rfl <;> rfl
      refine ⟨fun i hi => ?_, fun i p hi hp => ?_, fun i p hi hp hp2 => ?_⟩
      · rw [i1 i hi]
        unfold xDropS
        rw [va_up_ne _ _ (by omega), va_up_ne _ _ (by omega), va_up_ne _ _ (by omega)]
      · rw [i2 i p hi (by omega), e i hi, pk_un (by omega)]
      · rcases Nat.lt_or_ge (p + 1) (pl + 1) with h5 | h5
        · rw [i2 i p hi h5, e i hi, show p = pl - 1 by omega, pk_us, show pl - 1 + 1 = pl by omega]
        · rw [i3 i p hi h5 hp2, e i hi, pk_un (by omega)]
    · rw [xDropL, if_neg h]
      exact ⟨fun _ _ => rfl, fun _ _ _ _ => rfl, fun i p _ q1 q2 => by omega⟩
theorem lk_xEvA {tm kd va : Int32} : (∀ i, 3 ≤ i → xEvA a n tm kd va i = a i) ∧ xEvA a n tm kd va 0 = upd (a 0) n tm ∧ xEvA a n tm kd va 1 = upd (a 1) n kd ∧ xEvA a n tm kd va 2 = upd (a 2) n va := by
  refine ⟨fun i hi => ?_, rfl, rfl, rfl⟩
  unfold xEvA
  rw [va_up_ne _ _ (by omega), va_up_ne _ _ (by omega), va_up_ne _ _ (by omega)]
theorem lk_mEvB {tm kd va : Int32} : (∀ i, 3 ≤ i → mEvB b ev tm kd va i = b i) ∧ mEvB b ev tm kd va 0 = upd (b 0) ev tm ∧ mEvB b ev tm kd va 1 = upd (b 1) ev kd ∧ mEvB b ev tm kd va 2 = upd (b 2) ev va := by
  refine ⟨fun i hi => ?_, rfl, rfl, rfl⟩
  unfold mEvB
  rw [va_up_ne _ _ (by omega), va_up_ne _ _ (by omega), va_up_ne _ _ (by omega)]
theorem lk_new (A : Ag a f b g ev n ms) {a2 : Nat → Nat → Int32} {f2 g2 : Nat → Int32} {m : Nat} {tm kd va : Int32} (hm1 : m = ev + 1 - (ev + 1 - 16) - 1) (h3 : ∀ i, 3 ≤ i → a2 i = a i) (hlo : ∀ i p, i ≤ 2 → p < m → a2 i p = b i ((ev + 1 - 16) + p)) (he0 : a2 0 m = tm) (he1 : a2 1 m = kd) (he2 : a2 2 m = va) (hf : f2 2 = f 2 ∧ f2 3 = f 3) (hg : g2 2 = g 2 ∧ g2 3 = g 3) (hbad : ¬ evBad a n tm kd) : Ag a2 f2 (mEvB b ev tm kd va) g2 (ev + 1) (m + 1) ms := by
  have A0 := A
  obtain ⟨hn, hm, e2, e3, hsy, hsp, hev, hst, hs, hb⟩ := A
  obtain ⟨k3, k0, k1, k2⟩ := lk_mEvB (b := b) (ev := ev) (tm := tm) (kd := kd) (va := va)
  have hl : ¬ tm < mLate b ev := fun h => hbad (Or.inl (by rw [lk_xLate A0]; exact h))
  have ht : ¬ 1000000 < tm := fun h => hbad (Or.inr (Or.inl h))
  have hl0 : ∀ i, i < ev → b 0 i ≤ tm := by
    intro i hi
    unfold mLate at hl
    rw [if_neg (by omega)] at hl
    have q := hs i (ev - 1) (by omega) (by omega)
    exact Int32.le_trans q (Int32.not_lt.mp hl)
  have hp : ¬ tm < 0 := by
    intro h
    unfold mLate at hl
    split at hl
    · exact hl h
    · exact hl (Int32.lt_of_lt_of_le h (Int32.not_lt.mp (hb (ev - 1) (by omega)).1))
  refine ⟨by omega, hm, by rw [hf.1, hg.1, e2], by rw [hf.2, hg.2, e3], by rw [hg.1]; exact hsy, by rw [hg.2]; exact hsp, fun i p q1 q2 => ?_, fun i s q1 q2 q3 => ?_, fun i j q1 q2 => ?_, fun i q1 => ?_⟩
  · rcases Nat.lt_or_ge p m with h | h
    · rw [hlo i p q1 h]
      rcases (show i = 0 ∨ i = 1 ∨ i = 2 by omega) with rfl | rfl | rfl
      · rw [k0, pk_un (by omega)]
      · rw [k1, pk_un (by omega)]
      · rw [k2, pk_un (by omega)]
    · rw [show p = m by omega, show ev + 1 - 16 + m = ev by omega]
      rcases (show i = 0 ∨ i = 1 ∨ i = 2 by omega) with rfl | rfl | rfl
      · rw [k0, pk_us, he0]
      · rw [k1, pk_us, he1]
      · rw [k2, pk_us, he2]
  · rw [h3 i q1, k3 i q1]; exact hst i s q1 q2 q3
  · rw [k0]
    by_cases h : j = ev
    · rw [h, pk_us]
      by_cases h4 : i = ev
      · rw [h4, pk_us]; exact Int32.le_refl _
      · rw [pk_un h4]; exact hl0 i (by omega)
    · rw [pk_un h, pk_un (by omega)]; exact hs i j q1 (by omega)
  · rw [k0]
    by_cases h4 : i = ev
    · rw [h4, pk_us]; exact ⟨hp, Int32.not_lt.mp ht⟩
    · rw [pk_un h4]; exact hb i (by omega)
theorem updL0 (h : Nat → Int64) (x : Int64) : vp_updL h 0 x 0 = x := pk_uLs
theorem ly_event (A : Ln a f b g ev n ms) {h : Nat → Int64} {w : Nat → Nat → Int32} {tm kd va r0 r1 : Int32} {u : XS × (Nat → Int64)} {v : MS}
    (hC : (r0 = 0 ∧ ((¬ evBad a n tm kd ∧ ev < 400)) ∧ u = (xEv a f w n ev tm kd va, vp_updL h 0 (nI ev).toInt64)) ∨ (r0 = 1 ∧ (evBad a n tm kd) ∧ u = ((a, f, w), h)) ∨ (r0 = 2 ∧ (¬ evBad a n tm kd ∧ ev = 400) ∧ u = ((a, f, w), h)))
    (hM : (mEvT b ev tm kd = 0 → r1 = nI ev ∧ v = (mEvB b ev tm kd va, va_up (va_up g 0 (nI (mTh false false false))) 1 (nI (ev + 1)))) ∧ (¬ mEvT b ev tm kd = 0 → v = (b, va_up g 0 (nI (mEvT b ev tm kd))))) :
    v.2 0 = r0 ∧ (r0 = 0 → u.2 0 = r1.toInt64) ∧ ∃ ev n ms, Ln u.1.1 u.1.2.1 v.1 v.2 ev n ms := by
  have hT := lk_evT A.1 (tm := tm) (kd := kd)
  rcases hC with ⟨rfl, ⟨c1, c2⟩, rfl⟩ | ⟨rfl, c1, rfl⟩ | ⟨rfl, ⟨c1, c2⟩, rfl⟩
  · have e : mEvT b ev tm kd = 0 := lk_good (Bool.not_eq_true _ ▸ fun q => c1 (hT.mp q)) (decide_eq_false (by omega)) rfl
    obtain ⟨rfl, rfl⟩ := hM.1 e
    refine ⟨rfl, fun _ => updL0 h _, ev + 1, ev + 1 - (ev + 1 - 16), ms, ?_⟩
    obtain ⟨A, h5, h6, h7, h8, h9, h10⟩ := A
    have hn := A.1
    have hm := A.2.1
    unfold xEv
    by_cases h : n < 16
    · rw [if_pos h]
      obtain ⟨k3, k0, k1, k2⟩ := lk_xEvA (a := a) (n := n) (tm := tm) (kd := kd) (va := va)
      have := lk_new A (a2 := xEvA a n tm kd va) (f2 := va_up (va_up f 1 (nI (n + 1))) 0 (nI (ev + 1))) (g2 := va_up (va_up g 0 (nI (mTh false false false))) 1 (nI (ev + 1))) (m := n) (tm := tm) (kd := kd) (va := va) (by omega) k3 (fun i p q1 q2 => by
        rw [show ev + 1 - 16 + p = ev - 16 + p by omega, ← A.2.2.2.2.2.2.1 i p q1 q2]
        rcases (show i = 0 ∨ i = 1 ∨ i = 2 by omega) with rfl | rfl | rfl
        · rw [k0, pk_un (by omega)]
        · rw [k1, pk_un (by omega)]
        · rw [k2, pk_un (by omega)]) (by rw [k0, pk_us]) (by rw [k1, pk_us]) (by rw [k2, pk_us]) ⟨rfl, rfl⟩ ⟨rfl, rfl⟩ c1
      rw [show n + 1 = ev + 1 - (ev + 1 - 16) by omega] at this
      rw [show n + 1 = ev + 1 - (ev + 1 - 16) by omega]
      exact ⟨this, by omega, rfl, rfl, h8, rfl, h10⟩
    · rw [if_neg h]
      obtain ⟨d1, d2, d3⟩ := lk_dropF 16 1 a (by omega) (by omega) (by omega)
      generalize xDropL 16 1 a = a1 at d1 d2 d3 ⊢
      obtain ⟨k3, k0, k1, k2⟩ := lk_xEvA (a := a1) (n := 15) (tm := tm) (kd := kd) (va := va)
      have := lk_new A (a2 := xEvA a1 15 tm kd va) (f2 := va_up (va_up (va_up f 1 15) 1 (nI (15 + 1))) 0 (nI (ev + 1))) (g2 := va_up (va_up g 0 (nI (mTh false false false))) 1 (nI (ev + 1))) (m := 15) (tm := tm) (kd := kd) (va := va) (by omega) (fun i hi => (k3 i hi).trans (d1 i hi)) (fun i p q1 q2 => by
        rw [show ev + 1 - 16 + p = ev - 16 + (p + 1) by omega, ← A.2.2.2.2.2.2.1 i (p + 1) q1 (by omega), ← d3 i p q1 (by omega) q2]
        rcases (show i = 0 ∨ i = 1 ∨ i = 2 by omega) with rfl | rfl | rfl
        · rw [k0, pk_un (by omega)]
        · rw [k1, pk_un (by omega)]
        · rw [k2, pk_un (by omega)]) (by rw [k0, pk_us]) (by rw [k1, pk_us]) (by rw [k2, pk_us]) ⟨rfl, rfl⟩ ⟨rfl, rfl⟩ c1
      rw [show 15 + 1 = ev + 1 - (ev + 1 - 16) by omega] at this
      rw [show 15 + 1 = ev + 1 - (ev + 1 - 16) by omega]
      exact ⟨this, by omega, rfl, rfl, h8, rfl, h10⟩
  · have e : mEvT b ev tm kd = 1 := lk_bad (hT.mpr c1)
    have hv := hM.2 (by rw [e]; decide)
    rw [e] at hv
    subst hv
    exact ⟨rfl, fun q => absurd q (by decide), ev, n, ms, A.same (fun _ _ => rfl) (fun _ _ => rfl) (fun _ _ => rfl) up0⟩
  · have e : mEvT b ev tm kd = 2 := lk_ful (Bool.not_eq_true _ ▸ fun q => c1 (hT.mp q)) (decide_eq_true c2)
    have hv := hM.2 (by rw [e]; decide)
    rw [e] at hv
    subst hv
    exact ⟨rfl, fun q => absurd q (by decide), ev, n, ms, A.same (fun _ _ => rfl) (fun _ _ => rfl) (fun _ _ => rfl) up0⟩
theorem ly_clear (A : Ln a f b g ev n ms) : ∃ ev n ms, Ln a (va_up (va_up f 0 0) 1 0) b (va_up (va_up g 0 0) 1 0) ev n ms := by
  obtain ⟨⟨hn, hm, e2, e3, hsy, hsp, hev, hst, hs, hb⟩, h5, h6, h7, h8, h9, h10⟩ := A
  exact ⟨0, 0, ms, ⟨rfl, hm, e2, e3, hsy, hsp, fun i p _ q => absurd q (by omega), hst, fun i j _ q => absurd q (by omega), fun i q => absurd q (by omega)⟩, by omega, rfl, rfl, h8, rfl, h10⟩
theorem lk_paT {sy sp : Int32} : (!iIn sy 0 1 || !iIn sp 0 1000000) = true ↔ paBad sy sp := by
  rw [Bool.or_eq_true, Bool.not_eq_true', Bool.not_eq_true', ← Bool.not_eq_true (iIn sp 0 1000000), lk_iIn]
  unfold paBad
  constructor
  · rintro (h | h)
    · exact Or.inl (iIn_n01 h)
    · by_cases h1 : sp < 0
      · exact Or.inr (Or.inl h1)
      · exact Or.inr (Or.inr (Decidable.of_not_not (fun h2 => h ⟨h1, h2⟩)))
  · rintro (h | h | h)
    · left
      cases q : iIn sy 0 1 with
      | false => rfl
      | true => rcases iIn_01 q with h1 | h1; exact absurd h1 h.1; exact absurd h1.2 h.2
    · exact Or.inr (fun q => q.1 h)
    · exact Or.inr (fun q => q.2 h)
theorem ly_pattern (A : Ln a f b g ev n ms) {h : Nat → Int64} {w : Nat → Nat → Int32} {sy sp r0 : Int32} {u : XS × (Nat → Int64)} {v : MS}
    (hC : (r0 = 0 ∧ ((¬ paBad sy sp)) ∧ u = ((a, va_up (va_up (va_up f 2 sy) 3 sp) 4 0, w), h)) ∨ (r0 = 1 ∧ (paBad sy sp) ∧ u = ((a, f, w), h)))
    (hM : (mPaT sy sp = 0 → v = (b, va_up (va_up (va_up (va_up g 0 (nI (mTh false false false))) 2 sy) 3 sp) 4 0)) ∧ (¬ mPaT sy sp = 0 → v = (b, va_up g 0 (nI (mPaT sy sp))))) :
    v.2 0 = r0 ∧ ∃ ev n ms, Ln u.1.1 u.1.2.1 v.1 v.2 ev n ms := by
  have hT := lk_paT (sy := sy) (sp := sp)
  rcases hC with ⟨rfl, c1, rfl⟩ | ⟨rfl, c1, rfl⟩
  · have e : mPaT sy sp = 0 := lk_good (Bool.not_eq_true _ ▸ fun q => c1 (hT.mp q)) rfl rfl
    have hv := hM.1 e
    subst hv
    obtain ⟨⟨hn, hm, e2, e3, hsy, hsp, hev, hst, hs, hb⟩, h5, h6, h7, h8, h9, h10⟩ := A
    refine ⟨rfl, ev, n, 0, ⟨hn, by omega, rfl, rfl, ?_, fun q => c1 (Or.inr (Or.inl q)), hev, fun i s _ _ q => absurd q (by omega), hs, hb⟩, h5, h6, h7, rfl, h9, rfl⟩
    show sy = 0 ∨ sy = 1
    by_cases q : sy = 0
    · exact Or.inl q
    · exact Or.inr (Decidable.of_not_not (fun q2 => c1 (Or.inl ⟨q, q2⟩)))
  · have e : mPaT sy sp = 1 := lk_bad (hT.mpr c1)
    have hv := hM.2 (by rw [e]; decide)
    rw [e] at hv
    subst hv
    exact ⟨rfl, ev, n, ms, A.same (fun _ _ => rfl) (fun _ _ => rfl) (fun _ _ => rfl) up0⟩
theorem lk_stT {ki te : Int32} : (!(iIn ki 1 255 && iIn te 0 4)) = true ↔ stBad ki te := by
  rw [Bool.not_eq_true', ← Bool.not_eq_true, Bool.and_eq_true, lk_iIn, lk_iIn]
  unfold stBad
  constructor
  · intro h
    by_cases h1 : ki < 1
    · exact Or.inl h1
    · by_cases h2 : 255 < ki
      · exact Or.inr (Or.inl h2)
      · by_cases h3 : te < 0
        · exact Or.inr (Or.inr (Or.inl h3))
        · by_cases h4 : 4 < te
          · exact Or.inr (Or.inr (Or.inr h4))
          · exact absurd ⟨⟨h1, h2⟩, h3, h4⟩ h
  · rintro (h | h | h | h) ⟨⟨q1, q2⟩, q3, q4⟩
    · exact q1 h
    · exact q2 h
    · exact q3 h
    · exact q4 h
theorem ly_step (A : Ln a f b g ev n ms) {h : Nat → Int64} {w : Nat → Nat → Int32} {ki te nn mb r0 r1 : Int32} {u : XS × (Nat → Int64)} {v : MS}
    (hC : (r0 = 0 ∧ ((¬ stBad ki te ∧ ms < 5)) ∧ u = ((va_up (va_up (va_up (va_up a 3 (upd (a 3) ms ki)) 4 (upd (a 4) ms te)) 5 (upd (a 5) ms nn)) 6 (upd (a 6) ms (vp_nar .boolean mb)), va_up f 4 (nI (ms + 1)), w), vp_updL h 0 (nI ms).toInt64)) ∨ (r0 = 1 ∧ (stBad ki te) ∧ u = ((a, f, w), h)) ∨ (r0 = 2 ∧ (¬ stBad ki te ∧ ms = 5) ∧ u = ((a, f, w), h)))
    (hM : (mStT ms ki te = 0 → r1 = nI ms ∧ v = (mStB b ms ki te nn mb, va_up (va_up g 0 (nI (mTh false false false))) 4 (nI (ms + 1)))) ∧ (¬ mStT ms ki te = 0 → v = (b, va_up g 0 (nI (mStT ms ki te))))) :
    v.2 0 = r0 ∧ (r0 = 0 → u.2 0 = r1.toInt64) ∧ ∃ ev n ms, Ln u.1.1 u.1.2.1 v.1 v.2 ev n ms := by
  have hT := lk_stT (ki := ki) (te := te)
  rcases hC with ⟨rfl, ⟨c1, c2⟩, rfl⟩ | ⟨rfl, c1, rfl⟩ | ⟨rfl, ⟨c1, c2⟩, rfl⟩
  · have e : mStT ms ki te = 0 := lk_good (Bool.not_eq_true _ ▸ fun q => c1 (hT.mp q)) (decide_eq_false (by omega)) rfl
    obtain ⟨rfl, rfl⟩ := hM.1 e
    refine ⟨rfl, fun _ => updL0 h _, ev, n, ms + 1, ?_⟩
    obtain ⟨⟨hn, hm, e2, e3, hsy, hsp, hev, hst, hs, hb⟩, h5, h6, h7, h8, h9, h10⟩ := A
    refine ⟨⟨hn, by omega, e2, e3, hsy, hsp, fun i p q1 q2 => ?_, fun i s q1 q2 q3 => ?_, hs, hb⟩, h5, h6, h7, rfl, h9, rfl⟩
    · rcases (show i = 0 ∨ i = 1 ∨ i = 2 by omega) with rfl | rfl | rfl
      · exact hev 0 p q1 q2
      · exact hev 1 p q1 q2
      · exact hev 2 p q1 q2
    · have key : ∀ x : Int32, upd (a i) ms x s = upd (b i) ms x s := by
        intro x
        by_cases q : s = ms
        · rw [q, pk_us, pk_us]
        · rw [pk_un q, pk_un q]; exact hst i s q1 q2 (by omega)
      rcases (show i = 3 ∨ i = 4 ∨ i = 5 ∨ i = 6 by omega) with rfl | rfl | rfl | rfl
      · exact key _
      · exact key _
      · exact key _
      · exact key _
  · have e : mStT ms ki te = 1 := lk_bad (hT.mpr c1)
    have hv := hM.2 (by rw [e]; decide)
    rw [e] at hv
    subst hv
    exact ⟨rfl, fun q => absurd q (by decide), ev, n, ms, A.same (fun _ _ => rfl) (fun _ _ => rfl) (fun _ _ => rfl) up0⟩
  · have e : mStT ms ki te = 2 := lk_ful (Bool.not_eq_true _ ▸ fun q => c1 (hT.mp q)) (decide_eq_true c2)
    have hv := hM.2 (by rw [e]; decide)
    rw [e] at hv
    subst hv
    exact ⟨rfl, fun q => absurd q (by decide), ev, n, ms, A.same (fun _ _ => rfl) (fun _ _ => rfl) (fun _ _ => rfl) up0⟩
theorem ly_count (A : Ln a f b g ev n ms) (lt : Bool) (lo : Int32) (hlo : ∀ pl, pl < n → (!decide (nI pl < lo)) = (!lt || decide ((ev - 16) + pl + 1 = ev))) {h : Nat → Int64} {w : Nat → Nat → Int32} {r0 r1 : Int32} {u : XS × (Nat → Int64)} {v : MS}
    (hC : (r0 = 0 ∧ ((1 ≤ ms)) ∧ u = ((a, f, (xCntL a f n ms lo (n + 1) 0 0 w).2), vp_updL h 0 ((xCntL a f n ms lo (n + 1) 0 0 w).1).toInt64)) ∨ (r0 = 1 ∧ (ms = 0) ∧ u = ((a, f, w), h)))
    (hM : (ms = 0 → v = (b, va_up g 0 (nI 1))) ∧ (1 ≤ ms → r1 = nI (gAll b g ev ms lt (ev - (ev - 16)) (ev - 16)) ∧ ∃ y : Nat → Int32, v = (va_up b 7 y, va_up g 0 (nI 0)))) :
    v.2 0 = r0 ∧ (r0 = 0 → u.2 0 = r1.toInt64) ∧ ∃ ev n ms, Ln u.1.1 u.1.2.1 v.1 v.2 ev n ms := by
  rcases hC with ⟨rfl, c1, rfl⟩ | ⟨rfl, c1, rfl⟩
  · obtain ⟨rfl, y, rfl⟩ := hM.2 c1
    refine ⟨rfl, fun _ => ?_, ev, n, ms, A.same (fun _ _ => rfl) (fun _ _ => rfl) up7 up0⟩
    have e := lk_cnt A.1 c1 lt lo hlo (n + 1) 0 0 w (by omega) (by omega)
    rw [nI_0, Nat.zero_add, Nat.sub_zero] at e
    refine (updL0 h _).trans (congrArg Int32.toInt64 (e.trans ?_))
    rw [← A.1.1]; rfl
  · have hv := hM.1 c1
    subst hv
    exact ⟨rfl, fun q => absurd q (by decide), ev, n, ms, A.same (fun _ _ => rfl) (fun _ _ => rfl) (fun _ _ => rfl) up0⟩
theorem lk_lo0 (A : Ln a f b g ev n ms) : ∀ pl, pl < n → (!decide (nI pl < (0 : Int32))) = (!false || decide ((ev - 16) + pl + 1 = ev)) := fun pl h => by
  rw [decide_eq_false (nI_pos (by have := A.lo; omega))]; rfl
theorem lk_lo1 (A : Ln a f b g ev n ms) : ∀ pl, pl < n → (!decide (nI pl < nI n - 1)) = (!true || decide ((ev - 16) + pl + 1 = ev)) := fun pl h => by
  have q := A.lo
  rw [show (1 : Int32) = nI 1 from rfl, pk_sub (by omega), Bool.not_true, Bool.false_or]
  by_cases h1 : pl < n - 1
  · rw [decide_eq_true (nI_lt h1 (by omega)), decide_eq_false (by omega)]; rfl
  · rw [decide_eq_false (nI_nlt (by omega) (by omega)), decide_eq_true (by omega)]; rfl
theorem ly_length (A : Ln a f b g ev n ms) {h : Nat → Int64} {w : Nat → Nat → Int32} {kk r0 r1 : Int32} {u : XS × (Nat → Int64)} {v : MS}
    (hC : (r0 = 0 ∧ ((1 ≤ ms ∧ (xFind a f w n ms kk).1 = true)) ∧ u = ((xFind a f w n ms kk).2, vp_updL h 0 ((xFind a f w n ms kk).2.2.1 5).toInt64)) ∨ (r0 = 1 ∧ (ms = 0) ∧ u = ((a, f, w), h)) ∨ (r0 = 2 ∧ (1 ≤ ms ∧ (xFind a f w n ms kk).1 = false) ∧ u = ((xFind a f w n ms kk).2, h)))
    (hM : (ms = 0 → v = (b, va_up g 0 (nI 1))) ∧ (1 ≤ ms → mFnd b g ev ms kk = none → ∃ y : Nat → Int32, v = (va_up b 7 y, va_up (va_up g 5 0) 0 (nI 2))) ∧ (1 ≤ ms → ∀ fi Lf : Nat, mFnd b g ev ms kk = some (fi, Lf) → r1 = (mPath b g ev ms fi Lf).2 5 ∧ ∃ y : Nat → Int32, v = (va_up (mPath b g ev ms fi Lf).1 7 y, va_up (mPath b g ev ms fi Lf).2 0 (nI 0)))) :
    v.2 0 = r0 ∧ (r0 = 0 → u.2 0 = r1.toInt64) ∧ ∃ ev n ms, Ln u.1.1 u.1.2.1 v.1 v.2 ev n ms := by
  obtain ⟨l1, l2, l3, l4, l5⟩ := A.lo
  obtain ⟨fr1, fr2, -⟩ := xFind_frame a f w n ms kk l1
  rcases hC with ⟨rfl, ⟨c0, c1⟩, rfl⟩ | ⟨rfl, c1, rfl⟩ | ⟨rfl, ⟨c0, c1⟩, rfl⟩
  · obtain ⟨q1, q2⟩ := lk_xFind A.1 c0 w kk
    cases hF : mFnd b g ev ms kk with
    | none => rw [(q1 hF).1] at c1; cases c1
    | some z =>
      obtain ⟨e2, L2⟩ := z
      obtain ⟨rfl, y, rfl⟩ := hM.2.2 c0 e2 L2 hF
      obtain ⟨-, L, hL, x5, m5, -⟩ := q2 e2 L2 hF
      obtain ⟨o1, o2, o3⟩ := mFnd_ok hF
      obtain ⟨p1, p2, -⟩ := mPath_fr c0 l4 l5 o1 o2 o3
      exact ⟨rfl, fun _ => (updL0 h _).trans (congrArg Int32.toInt64 (x5.trans m5.symm)), ev, n, ms, A.same fr1 fr2 (fun i hi => (up7 i hi).trans (p1 i hi)) (fun i q q3 => (up0 i q q3).trans (p2 i q))⟩
  · have hv := hM.1 c1
    subst hv
    exact ⟨rfl, fun q => absurd q (by decide), ev, n, ms, A.same (fun _ _ => rfl) (fun _ _ => rfl) (fun _ _ => rfl) up0⟩
  · obtain ⟨q1, q2⟩ := lk_xFind A.1 c0 w kk
    cases hF : mFnd b g ev ms kk with
    | none =>
      obtain ⟨y, rfl⟩ := hM.2.1 c0 hF
      exact ⟨rfl, fun q => absurd q (by decide), ev, n, ms, A.same fr1 fr2 up7 (fun i q q3 => (up0 i q q3).trans (va_up_ne _ _ q))⟩
    | some z =>
      obtain ⟨e2, L2⟩ := z
      rw [(q2 e2 L2 hF).1] at c1; cases c1
theorem ly_match (A : Ln a f b g ev n ms) {h : Nat → Int64} {w : Nat → Nat → Int32} {kk ix wh r0 r1 : Int32} {u : XS × (Nat → Int64)} {v : MS}
    (hC : (r0 = 0 ∧ ((1 ≤ ms ∧ (xFind a f w n ms kk).1 = true ∧ ¬ (ix < 0 ∨ (xFind a f w n ms kk).2.2.1 5 ≤ ix)) ∧ (wh = 0 ∨ ¬ wh = 0 ∧ wh = 1)) ∧ u = ((xFind a f w n ms kk).2, vp_updL h 0 ((if wh = 0 then nI (ev - n) + (xFind a f w n ms kk).2.1 7 ix.toNatClampNeg else (xFind a f w n ms kk).2.1 8 ix.toNatClampNeg)).toInt64)) ∨ (r0 = 1 ∧ (ms = 0) ∧ u = ((a, f, w), h)) ∨ (r0 = 2 ∧ (1 ≤ ms ∧ ((xFind a f w n ms kk).1 = false ∨ (xFind a f w n ms kk).1 = true ∧ (ix < 0 ∨ (xFind a f w n ms kk).2.2.1 5 ≤ ix))) ∧ u = ((xFind a f w n ms kk).2, h)) ∨ (r0 = 3 ∧ (1 ≤ ms ∧ (xFind a f w n ms kk).1 = true ∧ ¬ (ix < 0 ∨ (xFind a f w n ms kk).2.2.1 5 ≤ ix) ∧ ¬ wh = 0 ∧ ¬ wh = 1) ∧ u = ((xFind a f w n ms kk).2, h)))
    (hM : (ms = 0 → v = (b, va_up g 0 (nI 1))) ∧ (1 ≤ ms → mFnd b g ev ms kk = none → ∃ y : Nat → Int32, v = (va_up b 7 y, va_up (va_up g 5 0) 0 (nI 2))) ∧ (1 ≤ ms → ∀ fi Lf : Nat, mFnd b g ev ms kk = some (fi, Lf) → ((ix < 0 ∨ (mPath b g ev ms fi Lf).2 5 ≤ ix) ∧ ∃ y : Nat → Int32, v = (va_up (mPath b g ev ms fi Lf).1 7 y, va_up (mPath b g ev ms fi Lf).2 0 (nI 2))) ∨ (¬ (ix < 0 ∨ (mPath b g ev ms fi Lf).2 5 ≤ ix) ∧ (¬ wh = 0 ∧ ¬ wh = 1) ∧ ∃ y : Nat → Int32, v = (va_up (mPath b g ev ms fi Lf).1 7 y, va_up (mPath b g ev ms fi Lf).2 0 (nI 3))) ∨ (¬ (ix < 0 ∨ (mPath b g ev ms fi Lf).2 5 ≤ ix) ∧ (wh = 0 ∨ ¬ wh = 0 ∧ wh = 1) ∧ r1 = (if wh = 0 then (mPath b g ev ms fi Lf).1 8 ix.toNatClampNeg else (mPath b g ev ms fi Lf).1 9 ix.toNatClampNeg) ∧ ∃ y : Nat → Int32, v = (va_up (mPath b g ev ms fi Lf).1 7 y, va_up (mPath b g ev ms fi Lf).2 0 (nI 0))))) :
    v.2 0 = r0 ∧ (r0 = 0 → u.2 0 = r1.toInt64) ∧ ∃ ev n ms, Ln u.1.1 u.1.2.1 v.1 v.2 ev n ms := by
  obtain ⟨l1, l2, l3, l4, l5⟩ := A.lo
  obtain ⟨fr1, fr2, -⟩ := xFind_frame a f w n ms kk l1
  have hit : 1 ≤ ms → ∀ e2 L2, mFnd b g ev ms kk = some (e2, L2) → (xFind a f w n ms kk).1 = true ∧ (xFind a f w n ms kk).2.2.1 5 = (mPath b g ev ms e2 L2).2 5 ∧ (∀ (y : Nat → Int32) (x : Int32), ∃ e9 n9 m9, Ln (xFind a f w n ms kk).2.1 (xFind a f w n ms kk).2.2.1 (va_up (mPath b g ev ms e2 L2).1 7 y) (va_up (mPath b g ev ms e2 L2).2 0 x) e9 n9 m9) ∧ (¬ (ix < 0 ∨ (mPath b g ev ms e2 L2).2 5 ≤ ix) → (if wh = 0 then nI (ev - n) + (xFind a f w n ms kk).2.1 7 ix.toNatClampNeg else (xFind a f w n ms kk).2.1 8 ix.toNatClampNeg) = (if wh = 0 then (mPath b g ev ms e2 L2).1 8 ix.toNatClampNeg else (mPath b g ev ms e2 L2).1 9 ix.toNatClampNeg)) := by
    intro c0 e2 L2 hF
    obtain ⟨q0, L, hL, x5, m5, hr⟩ := (lk_xFind A.1 c0 w kk).2 e2 L2 hF
    obtain ⟨o1, o2, o3⟩ := mFnd_ok hF
    obtain ⟨p1, p2, -⟩ := mPath_fr c0 l4 l5 o1 o2 o3
    refine ⟨q0, by rw [x5, m5], fun y x => ⟨ev, n, ms, A.same fr1 fr2 (fun i hi => (up7 i hi).trans (p1 i hi)) (fun i q q3 => (up0 i q q3).trans (p2 i q))⟩, fun hin => ?_⟩
    rw [m5] at hin
    rcases pk_ix ix (n := L) (by omega) with h9 | h9 | ⟨j, hj, rfl⟩
    · exact absurd (Or.inl h9) hin
    · exact absurd (Or.inr h9) hin
    · obtain ⟨p, hp, k1, k2, k3⟩ := hr j hj
      rw [nI_clamp (by omega), k1, k2, k3, l3, nI_add]
  rcases hC with ⟨rfl, ⟨⟨c0, c1, c2⟩, c3⟩, rfl⟩ | ⟨rfl, c1, rfl⟩ | ⟨rfl, ⟨c0, c1⟩, rfl⟩ | ⟨rfl, ⟨c0, c1, c2, c3⟩, rfl⟩
  · cases hF : mFnd b g ev ms kk with
    | none => rw [((lk_xFind A.1 c0 w kk).1 hF).1] at c1; cases c1
    | some z =>
      obtain ⟨e2, L2⟩ := z
      obtain ⟨q0, q1, q2, q3⟩ := hit c0 e2 L2 hF
      rw [q1] at c2
      rcases hM.2.2 c0 e2 L2 hF with ⟨k1, -⟩ | ⟨-, ⟨k1, k2⟩, -⟩ | ⟨-, -, k2, y, rfl⟩
      · exact absurd k1 c2
      · rcases c3 with c3 | c3
        · exact absurd c3 k1
        · exact absurd c3.2 k2
      · exact ⟨rfl, fun _ => (updL0 h _).trans (congrArg Int32.toInt64 ((q3 c2).trans k2.symm)), q2 _ _⟩
  · have hv := hM.1 c1
    subst hv
    exact ⟨rfl, fun q => absurd q (by decide), ev, n, ms, A.same (fun _ _ => rfl) (fun _ _ => rfl) (fun _ _ => rfl) up0⟩
  · cases hF : mFnd b g ev ms kk with
    | none =>
      obtain ⟨y, rfl⟩ := hM.2.1 c0 hF
      exact ⟨rfl, fun q => absurd q (by decide), ev, n, ms, A.same fr1 fr2 up7 (fun i q q3 => (up0 i q q3).trans (va_up_ne _ _ q))⟩
    | some z =>
      obtain ⟨e2, L2⟩ := z
      obtain ⟨q0, q1, q2, q3⟩ := hit c0 e2 L2 hF
      have c4 : ix < 0 ∨ (mPath b g ev ms e2 L2).2 5 ≤ ix := by
        rcases c1 with c1 | c1
        · rw [q0] at c1; cases c1
        · rw [← q1]; exact c1.2
      rcases hM.2.2 c0 e2 L2 hF with ⟨-, y, rfl⟩ | ⟨k1, -⟩ | ⟨k1, -⟩
      · exact ⟨rfl, fun q => absurd q (by decide), q2 _ _⟩
      · exact absurd c4 k1
      · exact absurd c4 k1
  · cases hF : mFnd b g ev ms kk with
    | none => rw [((lk_xFind A.1 c0 w kk).1 hF).1] at c1; cases c1
    | some z =>
      obtain ⟨e2, L2⟩ := z
      obtain ⟨q0, q1, q2, q3⟩ := hit c0 e2 L2 hF
      rw [q1] at c2
      rcases hM.2.2 c0 e2 L2 hF with ⟨k1, -⟩ | ⟨-, -, y, rfl⟩ | ⟨-, k1, -⟩
      · exact absurd k1 c2
      · exact ⟨rfl, fun q => absurd q (by decide), q2 _ _⟩
      · rcases k1 with k1 | k1
        · exact absurd k1 c3.1
        · exact absurd k1.2 c3.2
theorem ly_init : Ln (fun _ _ => 0) (fun _ => 0) (fun _ _ => 0) (fun _ => 0) 0 0 0 :=
  ⟨⟨rfl, by omega, rfl, rfl, Or.inl rfl, by decide, fun i p _ q => absurd q (by omega), fun i s _ _ q => absurd q (by omega), fun i j _ q => absurd q (by omega), fun i q => absurd q (by omega)⟩, by omega, rfl, rfl, rfl, rfl, rfl⟩
end LK3
