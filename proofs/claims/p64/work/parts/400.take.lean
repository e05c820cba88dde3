/-! Lemmas of whole (class side) -/
def eS (Y : pY) (k w : Nat) : Int32 :=
  match w with
  | 0 => Y 6 k 0
  | 1 => Y 5 k 2
  | 2 => Y 5 k 3
  | 3 => Y 5 k 4
  | 4 => Y 5 k 5
  | 5 => Y 5 k 6
  | 6 => Y 5 k 7
  | 7 => Y 5 k 8
  | 8 => Y 6 k 1
  | 9 => Y 6 k 2
  | 10 => Y 6 k 3
  | 11 => Y 6 k 4
  | 12 => Y 6 k 5
  | _ => 0
def sWhy (Y : pY) (k : Nat) : Int32 := if Y 6 k 0 = 0 then 1 else if Y 6 k 4 ≠ 0 then 2 else if Y 6 k 1 < Y 0 0 8 then 3 else if Y 5 k 2 = 0 then 4 else if Y 5 k 4 ≠ 0 ∨ 0 < Y 5 k 3 then 0 else 5
theorem itF_cut {σ : Type} {f : Nat → σ → σ} {n : Nat} (h : ∀ k a, n ≤ k → k < 6 → f k a = a) : ∀ (d k : Nat) (a : σ), k + d = 6 → n ≤ k → itF f d k a = a := by
  intro d
  induction d with
  | zero => intro k a _ _; rfl
  | succ d ih => intro k a hk hn; rw [itF, h k a hn (by omega)]; exact ih (k + 1) a (by omega) (by omega)
theorem itF_app {σ : Type} {f : Nat → σ → σ} : ∀ (d e k : Nat) (a : σ), itF f (d + e) k a = itF f e (k + d) (itF f d k a) := by
  intro d
  induction d with
  | zero => intro e k a; simp [b2_t, b2_f, up_at, up_up, up_id, itF]
  | succ d ih =>
    intro e k a
    have h1 : d + 1 + e = (d + e) + 1 := by omega
    rw [h1, itF, ih e (k + 1) (f k a), itF, show k + 1 + d = k + (d + 1) by omega]
theorem itF_6 {σ : Type} {f : Nat → σ → σ} {n : Nat} (hn : n ≤ 6) (h : ∀ k a, n ≤ k → k < 6 → f k a = a) (a : σ) : itF f 6 0 a = itF f n 0 a := by
  have : 6 = n + (6 - n) := by omega
  rw [this, itF_app]
  exact itF_cut h (6 - n) (0 + n) _ (by omega) (by omega)
theorem pu_leN {n k : Nat} (h : k < n) (hn : n ≤ 6) : (nI n ≤ nI k) = False := eq_false (by rw [pu_le _ _ (by omega) (by omega)]; omega)
theorem pu_leNN {n : Nat} : (nI n ≤ nI n) = True := eq_true (Int32.le_refl _)
theorem wm.nb {Q n t : Nat} {Y : pY} (h : wm Q n t Y) {k : Nat} (h1 : n ≤ k) (hk : k < 6) {f : Int32} : sBootF f Y k = false := by
  have := (h.hi k h1 hk).1
  unfold sBootF; simp [b2_t, b2_f, up_at, up_up, up_id, this]
def sSt (Y : pY) : Int32 := if Y 0 0 10 = 0 then 0 else if Y 0 0 11 = -1 then 2 else 1
theorem pu_min12 {z : Nat} (hz : z < 2147483648) : bsMin (nI z) 12 = nI (min z 12) := by
  have e : ((12 : Int32) < nI z) ↔ 12 < z := pu_lt 12 z hz (by decide)
  unfold bsMin
  by_cases h : 12 < z
  · have : min z 12 = 12 := by omega
    simp only [e.mpr h, if_true, this]; rfl
  · have h2 : ¬ (12 : Int32) < nI z := fun x => h (e.mp x)
    have : min z 12 = z := by omega
    simp only [h2, if_false, this]
def n2 (b : Bool) : Nat := if b then 1 else 0
def cnt (b : Nat → Bool) : Nat := n2 (b 0) + n2 (b 1) + n2 (b 2) + n2 (b 3) + n2 (b 4) + n2 (b 5)
theorem n2_le {a b : Bool} (h : a = true → b = true) : n2 a ≤ n2 b := by
  cases a <;> cases b <;> simp [b2_t, b2_f, up_at, up_up, up_id, n2] at *
theorem cnt_6 (b : Nat → Bool) : cnt b ≤ 6 := by
  have h : ∀ x, n2 x ≤ 1 := by intro x; cases x <;> decide
  have := h (b 0); have := h (b 1); have := h (b 2); have := h (b 3); have := h (b 4); have := h (b 5)
  unfold cnt; omega
theorem cnt_pos {b : Nat → Bool} {q : Nat} (hq : q < 6) (h : b q = true) : 0 < cnt b := by
  have : q = 0 ∨ q = 1 ∨ q = 2 ∨ q = 3 ∨ q = 4 ∨ q = 5 := by omega
  unfold cnt
  rcases this with rfl | rfl | rfl | rfl | rfl | rfl <;> rw [h] <;> simp only [n2, if_true] <;> omega
theorem cnt_lt {b b' : Nat → Bool} (h : ∀ k, k < 6 → b' k = true → b k = true) {q : Nat} (hq : q < 6) (h1 : b q = true) (h2 : b' q = false) : cnt b' < cnt b := by
  have a0 := n2_le (h 0 (by omega)); have a1 := n2_le (h 1 (by omega)); have a2 := n2_le (h 2 (by omega))
  have a3 := n2_le (h 3 (by omega)); have a4 := n2_le (h 4 (by omega)); have a5 := n2_le (h 5 (by omega))
  have e1 : n2 true = 1 := rfl
  have e0 : n2 false = 0 := rfl
  have : q = 0 ∨ q = 1 ∨ q = 2 ∨ q = 3 ∨ q = 4 ∨ q = 5 := by omega
  unfold cnt
  rcases this with rfl | rfl | rfl | rfl | rfl | rfl <;> rw [h1, h2, e1, e0] at * <;> omega
theorem sTry_boot {Y : pY} {q k : Nat} (hf : (sTry Y q).1 = false) : sBoot (sTry Y q).2 k = if k = q then false else sBoot Y k := by
  have c0 : ¬ (0 : Int32) < 0 := by decide
  unfold sTry at hf ⊢
  by_cases h1 : Y 6 q 5 = 0
  · simp [b2_t, b2_f, up_at, up_up, up_id, h1] at hf
  · simp only [h1, if_false]
    unfold sTry1 sBoot sBootF
    by_cases e : k = q <;> by_cases e2 : Y 5 q 4 = 0 <;> simp [b2_t, b2_f, up_at, up_up, up_id, wr_rd, e, e2]
theorem sFirst_none {Y : pY} (h : cnt (sBoot Y) = 0) : sFirstBut (-1) Y = none := by
  cases hf : sFirstBut (-1) Y with
  | none => rfl
  | some q =>
    obtain ⟨hq, hb, _⟩ := sFirst_boot hf
    have := cnt_pos (b := sBoot Y) hq hb
    omega
theorem wm.st {Q n t : Nat} {Y : pY} (h : wm Q n t Y) : (sSt Y = 2 ↔ sResc Y = true) ∧ (sSt Y = 1 ↔ (sRun Y).isSome = true) ∧ (sSt Y = 0 ↔ Y 0 0 10 = 0) := by
  have c1 : ¬ (0 : Int32) = 2 := by decide
  have c2 : ¬ (0 : Int32) = 1 := by decide
  have c3 : ¬ (2 : Int32) = 1 := by decide
  have c4 : ¬ (2 : Int32) = 0 := by decide
  have c5 : ¬ (1 : Int32) = 2 := by decide
  have c6 : ¬ (1 : Int32) = 0 := by decide
  have h6 := h.hn
  rcases h.hrun with ⟨e, er⟩ | ⟨r, hr, e, er, hon, _⟩
  · unfold sSt sResc
    rw [e, er]
    by_cases ho : Y 0 0 10 = 0 <;> simp [b2_t, b2_f, up_at, up_up, up_id, ho, c1, c2, c3, c4]
  · have hm := pu_m1 r (by omega)
    unfold sSt sResc
    rw [e, er, hon]
    simp [b2_t, b2_f, up_at, up_up, up_id, hm, c5, c6]
def sTicks : Nat → pY → pY
  | 0, Y => Y
  | d + 1, Y => sTicks d (sTick Y)
theorem wm_ticks {n : Nat} : ∀ (d Q t : Nat) (Y : pY), Q + 2 * d < 1000000 → wm Q n t Y → wm (Q + 2 * d) n (t + d) (sTicks d Y) := by
  intro d
  induction d with
  | zero => intro Q t Y _ h; exact h
  | succ d ih =>
    intro Q t Y hQ h
    have h1 := (qX3_tick (g := 0) (X := fun _ => Y) (by omega) h).2
    have := ih (Q + 2) (t + 1) (sTick Y) (by omega) h1
    have e1 : Q + 2 + 2 * d = Q + 2 * (d + 1) := by omega
    have e2 : t + 1 + d = t + (d + 1) := by omega
    rw [e1, e2] at this
    exact this
theorem qX3_state {g Q n t : Nat} {X : bsX} (h : wm Q n t (X g)) : fX3_state g X = some (sSt (X g), X) := by
  have h6 := h.hn
  have hst := h.st
  unfold fX3_state fX3_isRunning sSt
  by_cases h1 : X g 0 0 10 = 0
  · rw [if_pos h1, if_pos h1]
  · rw [if_neg h1, if_neg h1]
    rcases h.run with e | ⟨r, hr, e, _⟩
    · have hm : (-1 : Int32) < 0 := by decide
      simp [b2_t, b2_f, up_at, up_up, up_id, e, hm]
    · have hr6 : r < 6 := by omega
      simp [b2_t, b2_f, up_at, up_up, up_id, e, pu_lt0 hr6, pu_le6 hr6, pu_m16 hr6]
theorem sAhead_self {Y : pY} {k : Nat} : sAhead Y k k = false := by
  unfold sAhead; simp [b2_t, b2_f, up_at, up_up, up_id]
/-- how many are ahead of slot p -/
def sPlF (Y : pY) (p k : Nat) (x : Int32) : Int32 := if sBoot Y k = true ∧ sAhead Y k p = true then x + 1 else x
def sPlace (Y : pY) (p : Nat) : Int32 := itF (sPlF Y p) 6 0 0
theorem sw_out {v : Int32} {n : Nat} (hn : n < 1000) : ((v.toInt < 0 ∨ (n : Int) < v.toInt) ∧ ¬ (0 ≤ v ∧ v ≤ nI n)) ∨ ∃ w, w ≤ n ∧ v = nI w := by
  by_cases q : 0 ≤ v ∧ v ≤ nI n
  · right
    obtain ⟨k, hk, rfl⟩ := pu_of q.1
    exact ⟨k, (pu_le k n (by omega) hk).mp q.2, rfl⟩
  · left
    refine ⟨?_, q⟩
    by_cases h1 : v.toInt < 0
    · exact Or.inl h1
    · right
      have h0 : 0 ≤ v := by rw [Int32.le_iff_toInt_le]; simpa [b2_t, b2_f, up_at, up_up, up_id] using (by omega : 0 ≤ v.toInt)
      obtain ⟨k, hk, rfl⟩ := pu_of h0
      rw [pu_toInt k hk]
      by_cases h2 : k ≤ n
      · exact absurd ⟨h0, (pu_le k n (by omega) hk).mpr h2⟩ q
      · omega
theorem itF_congr {σ : Type} {f g : Nat → σ → σ} {N : Nat} (h : ∀ k a, k < N → f k a = g k a) : ∀ d k a, k + d = N → itF f d k a = itF g d k a := by
  intro d
  induction d with
  | zero => intro k a _; rfl
  | succ d ih => intro k a hk; rw [itF, itF, h k a (by omega)]; exact ih (k + 1) _ (by omega)
theorem sum_good {Y : pY} {n Q t : Nat} (hw : wm Q n t Y) : itF (fun k x => x + eS Y k 3) n 0 0 = sCnt (fun k => Y 5 k 4 ≠ 0) := by
  have h6 := hw.hn
  have hz : ∀ k, n ≤ k → k < 6 → Y 5 k 4 = 0 := fun k h1 h2 => ((hw.sl k h2).2.2.2.2.2.2.2.2.2 (hw.hi k h1 h2).1).2.2.1
  have e : itF (fun k x => x + eS Y k 3) 6 0 0 = itF (fun k x => x + eS Y k 3) n 0 0 := itF_6 h6 (fun k a h1 h2 => by
    show a + Y 5 k 4 = a
    rw [hz k h1 h2]; simp [b2_t, b2_f, up_at, up_up, up_id]) 0
  rw [← e]
  unfold sCnt
  refine itF_congr (N := 6) (fun k a hk => ?_) 6 0 0 rfl
  show a + Y 5 k 4 = _
  rcases (hw.sl k hk).2.2.2.1 with q | q <;> rw [q] <;> simp [b2_t, b2_f, up_at, up_up, up_id, q]
theorem sum_tries {Y : pY} {n Q t : Nat} (hw : wm Q n t Y) : itF (fun k x => x + eS Y k 2) n 0 0 = sSum (fun k => Y 5 k 3) := by
  have h6 := hw.hn
  have hz : ∀ k, n ≤ k → k < 6 → Y 5 k 3 = 0 := fun k h1 h2 => ((hw.sl k h2).2.2.2.2.2.2.2.2.2 (hw.hi k h1 h2).1).2.1
  have e : itF (fun k x => x + eS Y k 2) 6 0 0 = itF (fun k x => x + eS Y k 2) n 0 0 := itF_6 h6 (fun k a h1 h2 => by
    show a + Y 5 k 3 = a
    rw [hz k h1 h2]; simp [b2_t, b2_f, up_at, up_up, up_id]) 0
  rw [← e]
  rfl
theorem rw_within {X : bsX} {v a b : Int32} : fX8_requireWithin v a b X = some (if a ≤ v ∧ v ≤ b then (0, 0, X) else (3, 0, X)) := by
  unfold fX8_requireWithin
  by_cases q1 : v < a
  · have := pu_nle.mpr q1
    rw [if_pos q1, if_neg (fun q => this q.1)]
  · have g1 := pu_nlt.mp q1
    rw [if_neg q1]
    by_cases q2 : v ≤ b
    · rw [if_pos q2, if_pos ⟨g1, q2⟩]
    · rw [if_neg q2, if_neg (fun q => q2 q.2)]
theorem pu_mod8 (n : Nat) (h : n < 2147483648) : nI n - nI n / (8 : Int32) * (8 : Int32) = nI (n % 8) := by
  rw [show (8 : Int32) = nI 8 from rfl, pu_div n 8 h (by decide) (by decide), pu_mul, pu_sub _ _ (Nat.div_mul_le_self n 8)]
  congr 1; omega
theorem pu_min8 {z : Nat} (hz : z < 2147483648) : bsMin (nI z) 8 = nI (min z 8) := by
  have e : ((8 : Int32) < nI z) ↔ 8 < z := pu_lt 8 z hz (by decide)
  unfold bsMin
  by_cases h : 8 < z
  · have : min z 8 = 8 := by omega
    simp only [e.mpr h, if_true, this]; rfl
  · have h2 : ¬ (8 : Int32) < nI z := fun x => h (e.mp x)
    have : min z 8 = z := by omega
    simp only [h2, if_false, this]
/-- the class's two counters -/
def c13 (X : bsX) (np ck : Nat) : bsX := bsWr (bsWr X 13 0 0 8 (nI np)) 13 0 0 9 (nI ck)
theorem qX8_remember {X : bsX} {np ck n t Q : Nat} (h1 : np < 8) (h2 : ck ≤ 8) (h3 : X 13 0 0 8 = nI np) (h4 : X 13 0 0 9 = nI ck) (hw : wm Q n t (X 0)) :
    fX8_remember X = some (c13 (up X (2 + np) (sCopy (X 0) (X (2 + np)))) ((np + 1) % 8) (min (ck + 1) 8)) := by
  have e8 : ¬ (8 : Int32) ≤ nI np := fun q => by have := (pu_le 8 np (by omega) (by decide)).mp q; omega
  have hc := qX3_copy (g := 2 + np) (g2 := 0) (X := X) (by omega) hw
  have u13 : ∀ Y : pY, up X (2 + np) Y 13 = X 13 := fun Y => up_ne _ _ (by omega)
  have w9 : ∀ (Z : bsX) v, bsWr Z 13 0 0 8 v 13 0 0 9 = Z 13 0 0 9 := by intro Z v; simp [b2_t, b2_f, up_at, up_up, up_id, bsWr]
  unfold fX8_remember fX8_remember_32
  rw [h3, if_neg (pu_neg np (by omega)), if_neg e8, if_pos ((pu_in np 8 (by omega)).mpr h1), pu_ix np (by omega), hc]
  simp only [Option.bind_some, w9, u13, h3, h4, pu_succ]
  rw [pu_mod8 (np + 1) (by omega), pu_min8 (by omega)]
  rfl
def sCut (Y : pY) : pY := sStop (wr (wr (wr Y 0 0 10 0) 0 0 11 (-1)) 0 0 12 0)
theorem sCut_N (Y : pY) : sCut Y 0 0 10 = 0 ∧ sCut Y 0 0 11 = -1 ∧ sCut Y 0 0 12 = 0 := by
  unfold sCut
  rw [sStop_rd (by decide) (by decide), sStop_rd (by decide) (by decide), sStop_rd (by decide) (by decide)]
  simp [b2_t, b2_f, up_at, up_up, up_id, wr_rd]
theorem qX3_off (g : Nat) (X : bsX) : fX3_switchOff g X = some (up X g (sCut (X g))) := by
  unfold fX3_switchOff sCut
  rw [qX2_stop]
  simp [b2_t, b2_f, up_at, up_up, up_id, up_wr]
theorem wm_cut {Q n t : Nat} {Y : pY} (h : wm Q n t Y) : wm Q n t (sCut Y) := by
  obtain ⟨h1, h2, h3⟩ := sCut_N Y
  have e0 : ∀ K i, K ≠ 0 → K ≠ 2 → K ≠ 6 → sCut Y K 0 i = Y K 0 i := by
    intro K i a b c
    unfold sCut
    rw [sStop_rd b (Or.inl c), wr_rd, if_neg (by omega), wr_rd, if_neg (by omega), wr_rd, if_neg (by omega)]
  have e00 : ∀ i, i < 10 → sCut Y 0 0 i = Y 0 0 i := by
    intro i a
    unfold sCut
    rw [sStop_rd (by decide) (by decide), wr_rd, if_neg (by omega), wr_rd, if_neg (by omega), wr_rd, if_neg (by omega)]
  have e5 : ∀ k i, sCut Y 5 k i = Y 5 k i := by
    intro k i
    unfold sCut
    rw [sStop_rd (by decide) (Or.inl (by decide)), wr_rd, if_neg (by omega), wr_rd, if_neg (by omega), wr_rd, if_neg (by omega)]
  have e6 : ∀ k i, k < 6 → sCut Y 6 k i = Y 6 k i := by
    intro k i hk
    unfold sCut
    rw [sStop_rd (by decide) (Or.inr (by omega)), wr_rd, if_neg (by omega), wr_rd, if_neg (by omega), wr_rd, if_neg (by omega)]
  have hp : is01 (sCut Y 6 6 0) ∧ is01 (sCut Y 6 6 4) ∧ is01 (sCut Y 6 6 5) := sStop_pim
  have hi : sCut Y 2 0 1 = -1 := sStop_ins
  refine ⟨h.hn, by rw [e00 4 (by decide)]; exact h.sz, ?_, ?_, by rw [h1]; exact Or.inl rfl, Or.inl h2, by rw [e00 5 (by decide)]; exact h.wat, by rw [e00 6 (by decide)]; exact h.lim, by rw [e00 7 (by decide)]; exact h.ret, by rw [e00 8 (by decide)]; exact h.flo, by rw [e00 9 (by decide)]; exact h.tim, by rw [h3]; exact rng.z t, by rw [e0 3 4 (by decide) (by decide) (by decide)]; exact h.tot, hp, Or.inl hi, ?_⟩
  · intro k hk
    have := h.sl k hk
    unfold wS at this ⊢
    simp only [e5, e6 k _ hk]
    exact this
  · intro k a hk
    simp only [e5, e6 k _ hk]
    exact h.hi k a hk
  · intro i hi
    rw [e0 7 i (by decide) (by decide) (by decide), e0 8 i (by decide) (by decide) (by decide), e0 10 i (by decide) (by decide) (by decide)]
    exact h.log i hi
theorem qX8_tickL {B : bsX} {m n : Nat} {x2 : Int32} (hm : m < 1000) : ∀ (d k f Q t : Nat) (Y : pY), k + d = m → d < f → Q + 2 * d < 900000 → wm Q n t Y →
    fX8_tick_45 f (nI m) x2 (nI k) (up B 0 Y) = some (0, sTicks d Y 3 0 4 - x2, up B 0 (sTicks d Y)) := by
  intro d
  induction d with
  | zero =>
    intro k f Q t Y hk hf hQ h
    obtain ⟨f, rfl⟩ : ∃ z, f = z + 1 := ⟨f - 1, by omega⟩
    simp only [fX8_tick_45, sTicks, up_at]
    rw [if_pos ((pu_le m k (by omega) (by omega)).mpr (by omega))]
  | succ d ih =>
    intro k f Q t Y hk hf hQ h
    obtain ⟨f, rfl⟩ : ∃ z, f = z + 1 := ⟨f - 1, by omega⟩
    obtain ⟨e, hw⟩ := qX3_tick (g := 0) (Q := Q) (n := n) (t := t) (X := up B 0 Y) (by omega) (by rw [up_at]; exact h)
    rw [up_at, up_up] at e
    rw [up_at] at hw
    simp only [fX8_tick_45, sTicks]
    rw [if_neg (fun q => by have := (pu_le m k (by omega) (by omega)).mp q; omega), e]
    simp only [Option.bind_some, pu_succ]
    exact ih (k + 1) f (Q + 2) (t + 1) (sTick Y) (by omega) (by omega) (by omega) hw
theorem wm_mark {Q n t k : Nat} {Y : pY} {p r : Int32} (h : wm Q n t Y) (hk : k < n) (hp : Y 6 k 0 ≠ 0) (h1 : rng p 0 15) (h2 : rng r 0 7) : wm Q n t (wr (wr Y 5 k 2 p) 5 k 3 r) := by
  have h6 := h.hn
  refine h.of (by simp [b2_t, b2_f, up_at, up_up, up_id, wr_rd]) (by simpa [b2_t, b2_f, up_at, up_up, up_id, wr_rd] using h.flo) (by simpa [b2_t, b2_f, up_at, up_up, up_id, wr_rd] using h.tim) (by simpa [b2_t, b2_f, up_at, up_up, up_id, wr_rd] using h.age) (by simpa [b2_t, b2_f, up_at, up_up, up_id, wr_rd] using h.tot) (by simp [b2_t, b2_f, up_at, up_up, up_id, wr_rd]) ?_ (by simp [b2_t, b2_f, up_at, up_up, up_id, wr_rd]) (fun q h1 h2 => by have e : q ≠ k := (by omega); simpa [b2_t, b2_f, up_at, up_up, up_id, wr_rd, e] using (h.hi q h1 h2).2) (by simp [b2_t, b2_f, up_at, up_up, up_id, wr_rd]) (Nat.le_refl _)
  intro q hq
  have hs := h.sl q hq
  by_cases e : q = k
  · subst e; simp_all [wS, wr_rd]
  · simpa [b2_t, b2_f, up_at, up_up, up_id, wS, wr_rd, e] using hs
/-- slot k made empty -/
def sEmp (k : Nat) (Y : pY) : pY := wr (wr (wr (wr (wr (sImg Y k (fun i => if i = 0 then 1 else 0)) 6 k 0 0) 5 k 2 0) 5 k 3 0) 5 k 4 0) 5 k 5 0
theorem sEmp_rd {k : Nat} {Y : pY} {K j i : Nat} : sEmp k Y K j i = if j = k ∧ ((K = 6 ∧ i ≤ 5) ∨ (K = 5 ∧ 2 ≤ i ∧ i ≤ 5)) then 0 else Y K j i := by
  unfold sEmp sImg
  simp only [wr_rd]
  by_cases e : j = k ∧ ((K = 6 ∧ i ≤ 5) ∨ (K = 5 ∧ 2 ≤ i ∧ i ≤ 5))
  · rw [if_pos e]
    obtain ⟨rfl, e⟩ := e
    rcases e with ⟨rfl, e⟩ | ⟨rfl, e1, e2⟩
    · have : i = 0 ∨ i = 1 ∨ i = 2 ∨ i = 3 ∨ i = 4 ∨ i = 5 := by omega
      rcases this with rfl | rfl | rfl | rfl | rfl | rfl <;> simp [b2_t, b2_f, up_at, up_up, up_id]
    · have : i = 2 ∨ i = 3 ∨ i = 4 ∨ i = 5 := by omega
      rcases this with rfl | rfl | rfl | rfl <;> simp [b2_t, b2_f, up_at, up_up, up_id]
  · rw [if_neg e]
    repeat rw [if_neg (by omega)]
theorem qX5_empty (g k : Nat) (X : bsX) : fX5_makeEmpty g k X = some (up X g (sEmp k (X g))) := by
  unfold fX5_makeEmpty fX1_remove fX1_set fX5_setMark sEmp sImg
  simp [b2_t, b2_f, up_at, up_up, up_id, up_wr]
/-- an install that begins -/
def sBeg (k : Nat) (v s c m : Int32) (Y : pY) : pY := sImg (wr (wr (wr (sEmp k Y) 2 0 1 (nI k)) 2 0 2 m) 2 0 3 3) 6 (fun i => if i = 0 then 1 else if i = 1 then v else if i = 2 then s else if i = 3 then c else 0)
theorem qX_beg {k : Nat} {v s c m : Int32} {R : bsX} : ((fX5_makeEmpty 0 k R).bind fun r24 => (fX2_set 0 (nI k) m r24).bind fun r26 => (fX1_set 0 6 v s c r26).bind fun r28 => (some (0, ((r28 0 0 0 9) + m), r28) : Option bsXr)) = some (0, sBeg k v s c m (R 0) 0 0 9 + m, up R 0 (sBeg k v s c m (R 0))) := by
  rw [qX5_empty]
  unfold fX2_set fX1_set sBeg sImg
  simp [b2_t, b2_f, up_at, up_up, up_id, up_wr]
theorem sBeg_0 {k : Nat} {v s c m : Int32} {Y : pY} {K i : Nat} (a : K ≠ 2) (b : K ≠ 5) (d : K ≠ 6) : sBeg k v s c m Y K 0 i = Y K 0 i := by
  unfold sBeg sImg
  simp [b2_t, b2_f, up_at, up_up, up_id, wr_rd, sEmp_rd, a, b, d]
theorem wm_beg {Q n t k : Nat} {Y : pY} {v s c m : Int32} (h : wm Q n t Y) (hk : k < n) (hon : Y 0 0 10 ≠ 0) (hr : Y 0 0 11 ≠ nI k) (h1 : rng v 0 99) (h2 : rng s 0 99) (h3 : rng c 0 99) (h4 : rng m 1 99) : wm Q n t (sBeg k v s c m Y) := by
  have h6 := h.hn
  have hk6 : k ≠ 6 := by omega
  have r0 : ∀ K i, K ≠ 2 → K ≠ 5 → K ≠ 6 → sBeg k v s c m Y K 0 i = Y K 0 i := fun K i a b d => sBeg_0 a b d
  have r5 : ∀ q i, sBeg k v s c m Y 5 q i = if q = k ∧ 2 ≤ i ∧ i ≤ 5 then 0 else Y 5 q i := by
    intro q i; unfold sBeg sImg; simp [b2_t, b2_f, up_at, up_up, up_id, wr_rd, sEmp_rd]
  have r6 : ∀ q i, q < 6 → sBeg k v s c m Y 6 q i = if q = k ∧ i ≤ 5 then 0 else Y 6 q i := by
    intro q i hq
    have : ¬ q = 6 := by omega
    unfold sBeg sImg; simp [b2_t, b2_f, up_at, up_up, up_id, wr_rd, sEmp_rd, this]
  have p0 : sBeg k v s c m Y 6 6 0 = 1 := by unfold sBeg sImg; simp [b2_t, b2_f, up_at, up_up, up_id, wr_rd]
  have p1 : sBeg k v s c m Y 6 6 1 = v := by unfold sBeg sImg; simp [b2_t, b2_f, up_at, up_up, up_id, wr_rd]
  have p2 : sBeg k v s c m Y 6 6 2 = s := by unfold sBeg sImg; simp [b2_t, b2_f, up_at, up_up, up_id, wr_rd]
  have p3 : sBeg k v s c m Y 6 6 3 = c := by unfold sBeg sImg; simp [b2_t, b2_f, up_at, up_up, up_id, wr_rd]
  have p4 : sBeg k v s c m Y 6 6 4 = 0 := by unfold sBeg sImg; simp [b2_t, b2_f, up_at, up_up, up_id, wr_rd]
  have p5 : sBeg k v s c m Y 6 6 5 = 0 := by unfold sBeg sImg; simp [b2_t, b2_f, up_at, up_up, up_id, wr_rd]
  have i1 : sBeg k v s c m Y 2 0 1 = nI k := by unfold sBeg sImg; simp [b2_t, b2_f, up_at, up_up, up_id, wr_rd]
  have i2 : sBeg k v s c m Y 2 0 2 = m := by unfold sBeg sImg; simp [b2_t, b2_f, up_at, up_up, up_id, wr_rd]
  have i3 : sBeg k v s c m Y 2 0 3 = 3 := by unfold sBeg sImg; simp [b2_t, b2_f, up_at, up_up, up_id, wr_rd]
  have on1 : Y 0 0 10 = 1 := h.on.resolve_left hon
  have z15 : rng 0 0 15 := rng.z 15
  refine ⟨h.hn, ?_, ?_, ?_, ?_, ?_, ?_, ?_, ?_, ?_, ?_, ?_, ?_, ?_, ?_, ?_⟩
  · rw [r0 0 4 (by decide) (by decide) (by decide)]; exact h.sz
  · intro q hq
    have hs := h.sl q hq
    unfold wS at hs ⊢
    simp only [r5, r6 q _ hq]
    by_cases e : q = k
    · simp [b2_t, b2_f, up_at, up_up, up_id, e, is01, rng.z]
    · simpa [b2_t, b2_f, up_at, up_up, up_id, e] using hs
  · intro q q1 q2
    have e : q ≠ k := by omega
    have := h.hi q q1 q2
    simp only [r5, r6 q _ q2]
    simpa [b2_t, b2_f, up_at, up_up, up_id, e] using this
  · rw [r0 0 10 (by decide) (by decide) (by decide)]; exact h.on
  · rw [r0 0 10 (by decide) (by decide) (by decide), r0 0 11 (by decide) (by decide) (by decide)]
    rcases h.run with e | ⟨r, a1, a2, a3, a4⟩
    · exact Or.inl e
    · right
      have e : r ≠ k := by intro e; subst e; exact hr a2
      refine ⟨r, a1, a2, a3, ?_⟩
      rw [r6 r 0 (by omega), if_neg (by omega)]; exact a4
  · rw [r0 0 5 (by decide) (by decide) (by decide)]; exact h.wat
  · rw [r0 0 6 (by decide) (by decide) (by decide)]; exact h.lim
  · rw [r0 0 7 (by decide) (by decide) (by decide)]; exact h.ret
  · rw [r0 0 8 (by decide) (by decide) (by decide)]; exact h.flo
  · rw [r0 0 9 (by decide) (by decide) (by decide)]; exact h.tim
  · rw [r0 0 12 (by decide) (by decide) (by decide)]; exact h.age
  · rw [r0 3 4 (by decide) (by decide) (by decide)]; exact h.tot
  · rw [p0, p4, p5]; exact ⟨Or.inr rfl, Or.inl rfl, Or.inl rfl⟩
  · right
    refine ⟨k, hk, i1, by rw [i2]; exact h4, i3, p0, by rw [p4]; exact Or.inl rfl, by rw [p5]; exact Or.inl rfl, by rw [p1]; exact h1, by rw [p2]; exact h2, by rw [p3]; exact h3, by rw [r0 0 10 (by decide) (by decide) (by decide)]; exact on1, by rw [r6 k 0 (by omega), if_pos ⟨rfl, by omega⟩], by rw [r0 0 11 (by decide) (by decide) (by decide)]; exact hr⟩
  · intro i hi
    rw [r0 7 i (by decide) (by decide) (by decide), r0 8 i (by decide) (by decide) (by decide), r0 10 i (by decide) (by decide) (by decide)]
    exact h.log i hi
/-- slot u's image, or the install's (u = 6), is spoilt -/
def sSpo (u : Nat) (h : Int32) (Y : pY) : pY := wr (wr Y 6 u 4 (if h = 1 then Y 6 u 4 else 1)) 6 u 5 (if h = 0 then Y 6 u 5 else 1)
def sSpoA (u : Nat) (h : Int32) (Y : pY) : Int32 := (if h = 1 then Y 6 u 4 else 1) + 2 * (if h = 0 then Y 6 u 5 else 1)
theorem qX8_bit {a : Int32} {X : bsX} (h : is01 a) : fX8_bit a X = some (a, X) := by
  unfold fX8_bit
  rcases h with rfl | rfl
  · rfl
  · rfl
theorem is01_ite {p : Prop} [Decidable p] {a b : Int32} (h1 : is01 a) (h2 : is01 b) : is01 (if p then a else b) := by
  by_cases e : p
  · rw [if_pos e]; exact h1
  · rw [if_neg e]; exact h2
theorem qX8_spo {u : Nat} {h : Int32} {R : bsX} (h4 : is01 (R 0 6 u 4)) (h5 : is01 (R 0 6 u 5)) :
    (if (R 0 6 u 4) = 0 then (if h = (1 : Int32) then (fX8_spoil_102 h u u (0 : Int32) R) else (fX8_spoil_97 h u u R)) else (fX8_spoil_97 h u u R)) = some (0, sSpoA u h (R 0), up R 0 (sSpo u h (R 0))) := by
  have c10 : ¬ (1 : Int32) = 0 := by decide
  have o1 : is01 (1 : Int32) := Or.inr rfl
  have key : ∀ y : Int32, is01 y → y = (if h = 1 then R 0 6 u 4 else 1) → fX8_spoil_102 h u u y R = some (0, sSpoA u h (R 0), up R 0 (sSpo u h (R 0))) := by
    intro y hy he
    have hd : is01 (if h = 0 then R 0 6 u 5 else 1) := is01_ite h5 o1
    have key2 : ∀ z : Int32, z = (if h = 0 then R 0 6 u 5 else 1) → fX8_spoil_124 u u z (bsWr R 0 6 u 4 y) = some (0, sSpoA u h (R 0), up R 0 (sSpo u h (R 0))) := by
      intro z hz
      have hz1 : is01 z := by rw [hz]; exact hd
      have a4 : (bsWr (bsWr R 0 6 u 4 y) 0 6 u 5 z) 0 6 u 4 = y := by simp [b2_t, b2_f, up_at, up_up, up_id, bsWr]
      have a5 : (bsWr (bsWr R 0 6 u 4 y) 0 6 u 5 z) 0 6 u 5 = z := by simp [b2_t, b2_f, up_at, up_up, up_id, bsWr]
      unfold fX8_spoil_124
      rw [if_pos (show z = 0 ∨ z = 1 from hz1), a4, qX8_bit hy]
      simp only [Option.bind_some, a5]
      rw [qX8_bit hz1]
      simp only [Option.bind_some]
      unfold sSpoA sSpo
      rw [← he, ← hz, up_wr, up_wr, up_at, up_up]
    have a5 : (bsWr R 0 6 u 4 y) 0 6 u 5 = R 0 6 u 5 := by simp [b2_t, b2_f, up_at, up_up, up_id, bsWr]
    unfold fX8_spoil_102 fX8_spoil_119
    rw [if_pos (show y = 0 ∨ y = 1 from hy), a5]
    by_cases e5 : R 0 6 u 5 = 0
    · rw [if_pos e5]
      by_cases e0 : h = 0
      · rw [if_pos e0]; exact key2 0 (by rw [if_pos e0, e5])
      · rw [if_neg e0]; exact key2 1 (by rw [if_neg e0])
    · rw [if_neg e5]
      have e51 : R 0 6 u 5 = 1 := h5.resolve_left e5
      exact key2 1 (by by_cases e0 : h = 0
                       · rw [if_pos e0, e51]
                       · rw [if_neg e0])
  unfold fX8_spoil_97
  by_cases e4 : R 0 6 u 4 = 0
  · rw [if_pos e4]
    by_cases e1 : h = 1
    · rw [if_pos e1]; exact key 0 (Or.inl rfl) (by rw [if_pos e1, e4])
    · rw [if_neg e1]; exact key 1 o1 (by rw [if_neg e1])
  · rw [if_neg e4]
    have e41 : R 0 6 u 4 = 1 := h4.resolve_left e4
    exact key 1 o1 (by by_cases e1 : h = 1
                       · rw [if_pos e1, e41]
                       · rw [if_neg e1])
theorem sSpo_rd {u : Nat} {h : Int32} {Y : pY} {K j i : Nat} : sSpo u h Y K j i = if K = 6 ∧ j = u ∧ i = 5 then (if h = 0 then Y 6 u 5 else 1) else if K = 6 ∧ j = u ∧ i = 4 then (if h = 1 then Y 6 u 4 else 1) else Y K j i := rfl
theorem wm_spo {Q n t k : Nat} {Y : pY} {v : Int32} (h : wm Q n t Y) (hk : k < n) (hp : Y 6 k 0 ≠ 0) : wm Q n t (sSpo k v Y) := by
  have h6 := h.hn
  have o1 : is01 (1 : Int32) := Or.inr rfl
  have e6 : ¬ 6 = k := by omega
  refine h.of (by simp [b2_t, b2_f, up_at, up_up, up_id, sSpo_rd]) (by simpa [b2_t, b2_f, up_at, up_up, up_id, sSpo_rd] using h.flo) (by simpa [b2_t, b2_f, up_at, up_up, up_id, sSpo_rd] using h.tim) (by simpa [b2_t, b2_f, up_at, up_up, up_id, sSpo_rd] using h.age) (by simpa [b2_t, b2_f, up_at, up_up, up_id, sSpo_rd] using h.tot) (by simp [b2_t, b2_f, up_at, up_up, up_id, sSpo_rd, e6]) ?_ (by simp [b2_t, b2_f, up_at, up_up, up_id, sSpo_rd]) (fun q h1 h2 => by simpa [b2_t, b2_f, up_at, up_up, up_id, sSpo_rd] using (h.hi q h1 h2).2) (by simp [b2_t, b2_f, up_at, up_up, up_id, sSpo_rd]) (Nat.le_refl _)
  intro q hq
  have hs := h.sl q hq
  by_cases e : q = k
  · subst e
    have a4 : is01 (if v = 1 then Y 6 q 4 else 1) := is01_ite hs.2.1 o1
    have a5 : is01 (if v = 0 then Y 6 q 5 else 1) := is01_ite hs.2.2.1 o1
    simp_all [wS, sSpo_rd]
  · simpa [b2_t, b2_f, up_at, up_up, up_id, wS, sSpo_rd, e] using hs
theorem wm_spo6 {Q n t : Nat} {Y : pY} {v : Int32} (h : wm Q n t Y) : wm Q n t (sSpo 6 v Y) := by
  have h6 := h.hn
  have o1 : is01 (1 : Int32) := Or.inr rfl
  have a4 : is01 (if v = 1 then Y 6 6 4 else 1) := is01_ite h.pim.2.1 o1
  have a5 : is01 (if v = 0 then Y 6 6 5 else 1) := is01_ite h.pim.2.2 o1
  have r0 : ∀ K i, K ≠ 6 → sSpo 6 v Y K 0 i = Y K 0 i := by intro K i a; simp [b2_t, b2_f, up_at, up_up, up_id, sSpo_rd, a]
  have r5 : ∀ q i, sSpo 6 v Y 5 q i = Y 5 q i := by intro q i; simp [b2_t, b2_f, up_at, up_up, up_id, sSpo_rd]
  have r6 : ∀ q i, q < 6 → sSpo 6 v Y 6 q i = Y 6 q i := by
    intro q i hq
    have : ¬ q = 6 := by omega
    simp [b2_t, b2_f, up_at, up_up, up_id, sSpo_rd, this]
  have p0 : ∀ i, i ≠ 4 → i ≠ 5 → sSpo 6 v Y 6 6 i = Y 6 6 i := by intro i a b; simp [b2_t, b2_f, up_at, up_up, up_id, sSpo_rd, a, b]
  have p4 : sSpo 6 v Y 6 6 4 = if v = 1 then Y 6 6 4 else 1 := by simp [b2_t, b2_f, up_at, up_up, up_id, sSpo_rd]
  have p5 : sSpo 6 v Y 6 6 5 = if v = 0 then Y 6 6 5 else 1 := by simp [b2_t, b2_f, up_at, up_up, up_id, sSpo_rd]
  refine ⟨h.hn, ?_, ?_, ?_, ?_, ?_, ?_, ?_, ?_, ?_, ?_, ?_, ?_, ?_, ?_, ?_⟩
  · rw [r0 0 4 (by decide)]; exact h.sz
  · intro q hq
    have hs := h.sl q hq
    unfold wS at hs ⊢
    simp only [r5, r6 q _ hq]
    exact hs
  · intro q q1 q2
    have := h.hi q q1 q2
    simp only [r5, r6 q _ q2]
    exact this
  · rw [r0 0 10 (by decide)]; exact h.on
  · rw [r0 0 10 (by decide), r0 0 11 (by decide)]
    rcases h.run with e | ⟨r, a1, a2, a3, b⟩
    · exact Or.inl e
    · exact Or.inr ⟨r, a1, a2, a3, by rw [r6 r 0 (by omega)]; exact b⟩
  · rw [r0 0 5 (by decide)]; exact h.wat
  · rw [r0 0 6 (by decide)]; exact h.lim
  · rw [r0 0 7 (by decide)]; exact h.ret
  · rw [r0 0 8 (by decide)]; exact h.flo
  · rw [r0 0 9 (by decide)]; exact h.tim
  · rw [r0 0 12 (by decide)]; exact h.age
  · rw [r0 3 4 (by decide)]; exact h.tot
  · rw [p0 0 (by decide) (by decide), p4, p5]; exact ⟨h.pim.1, a4, a5⟩
  · rw [r0 2 1 (by decide), r0 2 2 (by decide), r0 2 3 (by decide), p0 0 (by decide) (by decide), p0 1 (by decide) (by decide), p0 2 (by decide) (by decide), p0 3 (by decide) (by decide), p4, p5, r0 0 10 (by decide), r0 0 11 (by decide)]
    rcases h.ins with e | ⟨z, z1, z2, z3, z4, z5, z6, z7, z8, z9, z10, z11, z12, z13⟩
    · exact Or.inl e
    · exact Or.inr ⟨z, z1, z2, z3, z4, z5, a4, a5, z8, z9, z10, z11, by rw [r6 z 0 (by omega)]; exact z12, z13⟩
  · intro i hi
    rw [r0 7 i (by decide), r0 8 i (by decide), r0 10 i (by decide)]
    exact h.log i hi
theorem wm_num {Q n t i : Nat} {Y : pY} {v : Int32} (h : wm Q n t Y) (hi : i = 5 ∨ i = 6 ∨ i = 7 ∨ i = 8) (h5 : i = 5 → rng v 1 99) (h6 : i = 6 → rng v 1 9) (h7 : i = 7 → rng v 0 7) (h8 : i = 8 → rng v 0 99) : wm Q n t (wr Y 0 0 i v) := by
  have r : ∀ q, q ≠ i → wr Y 0 0 i v 0 0 q = Y 0 0 q := by intro q e; rw [wr_rd, if_neg (by omega)]
  have r2 : ∀ K j q, K ≠ 0 → wr Y 0 0 i v K j q = Y K j q := by intro K j q e; rw [wr_rd, if_neg (by omega)]
  have r3 : wr Y 0 0 i v 0 0 i = v := by simp [b2_t, b2_f, up_at, up_up, up_id, wr_rd]
  refine ⟨h.hn, ?_, ?_, ?_, ?_, ?_, ?_, ?_, ?_, ?_, ?_, ?_, ?_, ?_, ?_, ?_⟩
  · rw [r 4 (by omega)]; exact h.sz
  · intro q hq
    have hs := h.sl q hq
    unfold wS at hs ⊢
    simp only [r2 _ _ _ (show (6 : Nat) ≠ 0 by decide), r2 _ _ _ (show (5 : Nat) ≠ 0 by decide)]
    exact hs
  · intro q q1 q2
    have := h.hi q q1 q2
    simp only [r2 _ _ _ (show (6 : Nat) ≠ 0 by decide), r2 _ _ _ (show (5 : Nat) ≠ 0 by decide)]
    exact this
  · rw [r 10 (by omega)]; exact h.on
  · rw [r 10 (by omega), r 11 (by omega)]
    simp only [r2 _ _ _ (show (6 : Nat) ≠ 0 by decide)]
    exact h.run
  · by_cases e : i = 5
    · subst e; rw [r3]; exact h5 rfl
    · rw [r 5 (fun q => e q.symm)]; exact h.wat
  · by_cases e : i = 6
    · subst e; rw [r3]; exact h6 rfl
    · rw [r 6 (fun q => e q.symm)]; exact h.lim
  · by_cases e : i = 7
    · subst e; rw [r3]; exact h7 rfl
    · rw [r 7 (fun q => e q.symm)]; exact h.ret
  · by_cases e : i = 8
    · subst e; rw [r3]; exact h8 rfl
    · rw [r 8 (fun q => e q.symm)]; exact h.flo
  · rw [r 9 (by omega)]; exact h.tim
  · rw [r 12 (by omega)]; exact h.age
  · rw [r2 _ _ _ (by decide)]; exact h.tot
  · simp only [r2 _ _ _ (show (6 : Nat) ≠ 0 by decide)]; exact h.pim
  · rw [r 10 (by omega), r 11 (by omega)]
    simp only [r2 _ _ _ (show (6 : Nat) ≠ 0 by decide), r2 _ _ _ (show (2 : Nat) ≠ 0 by decide)]
    exact h.ins
  · intro q hq
    rw [r2 _ _ _ (by decide), r2 _ _ _ (by decide), r2 _ _ _ (by decide)]
    exact h.log q hq
def sumN (p : Nat → Bool) : Nat → Nat → Nat
  | 0, _ => 0
  | d + 1, k => n2 (p k) + sumN p d (k + 1)
theorem sumN_rot (p : Nat → Bool) {b : Nat} (hb : b < 12) : sumN (fun r => p ((b + r) % 12)) 12 0 = sumN p 12 0 := by
  have : b = 0 ∨ b = 1 ∨ b = 2 ∨ b = 3 ∨ b = 4 ∨ b = 5 ∨ b = 6 ∨ b = 7 ∨ b = 8 ∨ b = 9 ∨ b = 10 ∨ b = 11 := by omega
  rcases this with rfl | rfl | rfl | rfl | rfl | rfl | rfl | rfl | rfl | rfl | rfl | rfl <;> simp only [sumN, Nat.zero_add, Nat.reduceAdd, Nat.reduceMod] <;> omega
theorem sumN_congr {p q : Nat → Bool} : ∀ d k, (∀ i, i < k + d → p i = q i) → sumN p d k = sumN q d k := by
  intro d
  induction d with
  | zero => intro k h; rfl
  | succ d ih =>
    intro k h
    unfold sumN
    rw [h k (by omega), ih (k + 1) (fun i hi => h i (by omega))]
def sHarm (Y : pY) (k : Nat) : Int32 := if Y 6 k 0 = 0 then 0 else if sBoot Y k = true then 2 else 1
def sLess (Y : pY) (k q : Nat) : Bool := if sHarm Y k = sHarm Y q then (sHarm Y k = 2 && sAhead Y q k) else sHarm Y k < sHarm Y q
theorem qX8_harm {X : bsX} {k : Nat} : fX8_harm k X = some (sHarm (X 0) k, X) := by
  have c10 : ¬ (1 : Int32) = 0 := by decide
  unfold fX8_harm sHarm
  by_cases p : X 0 6 k 0 = 0
  · rw [if_pos p, if_pos p]
  · rw [if_neg p, if_neg p, qX3_boot]
    simp only [Option.bind_some]
    cases b : sBoot (X 0) k
    · simp [b2_t, b2_f, up_at, up_up, up_id]
    · simp [b2_t, b2_f, up_at, up_up, up_id, c10]
theorem qX8_hurtsLess {X : bsX} {k q : Nat} (hk : k < 6) (hq : q < 6) (hs : slot01 (X 0)) : fX8_hurtsLess k q X = some (b2 (sLess (X 0) k q), X) := by
  have c10 : ¬ (1 : Int32) = 0 := by decide
  unfold fX8_hurtsLess sLess
  rw [qX8_harm]
  simp only [Option.bind_some, qX8_harm]
  by_cases e : sHarm (X 0) k = sHarm (X 0) q
  · rw [if_pos e, if_pos e]
    by_cases e2 : sHarm (X 0) k = 2
    · rw [if_pos e2, qX5_ahead 0 q k hq hk X (hs q hq)]
      simp only [Option.bind_some, e2, decide_true, Bool.true_and]
      cases sAhead (X 0) q k
      · simp [b2_t, b2_f, up_at, up_up, up_id]
      · simp [b2_t, b2_f, up_at, up_up, up_id, c10]
    · rw [if_neg e2]
      simp [b2_t, b2_f, up_at, up_up, up_id, e2]
  · rw [if_neg e, if_neg e]
    by_cases e2 : sHarm (X 0) q ≤ sHarm (X 0) k
    · rw [if_pos e2]
      have := pu_nlt.mpr e2
      simp [b2_t, b2_f, up_at, up_up, up_id, this]
    · rw [if_neg e2]
      have := pu_nle.mp e2
      simp [b2_t, b2_f, up_at, up_up, up_id, this]
def spF (Y : pY) (k : Nat) (b : Option Nat) : Option Nat := if nI k = Y 0 0 11 ∨ nI k = Y 2 0 1 then b else match b with
  | none => some k
  | some q => if sLess Y k q = true then some k else some q
theorem spF_lt {Y : pY} {k : Nat} {b : Option Nat} (h : ∀ q, b = some q → q < k) : ∀ q, spF Y k b = some q → q < k + 1 := by
  intro q e
  unfold spF at e
  by_cases c : nI k = Y 0 0 11 ∨ nI k = Y 2 0 1
  · rw [if_pos c] at e; have := h q e; omega
  · rw [if_neg c] at e
    cases b with
    | none => simp only [Option.some.injEq] at e; omega
    | some z =>
      have hz := h z rfl
      dsimp only at e
      by_cases c2 : sLess Y k z = true
      · rw [if_pos c2] at e; simp only [Option.some.injEq] at e; omega
      · rw [if_neg c2] at e; simp only [Option.some.injEq] at e; omega
