/-! THE BOOT LOG AND BOOTS -/
def sAdd (t c gv r : Int32) (Y : pY) : pY :=
  let i := bsIx (Y 3 0 4) % 12
  wr (wr (wr (wr (wr Y 7 0 i t) 8 0 i c) 9 0 i gv) 10 0 i r) 3 0 4 (Y 3 0 4 + 1)
theorem qX0_add {g : Nat} {t c gv r : Int32} {X : bsX} {Q : Nat} (h : rng (X g 3 0 4) 0 Q) (hQ : Q < 1000000) : fX0_add g t c gv r X = some (up X g (sAdd t c gv r (X g))) := by
  obtain ⟨q, _, h2, h3⟩ := h
  have hm : q % 12 < 12 := Nat.mod_lt _ (by decide)
  unfold fX0_add fX0_add_54 sAdd
  rw [h3, pu_mod q (by omega), pu_ix q (by omega), pu_ix (q % 12) (by omega)]
  rw [if_neg (pu_neg (q % 12) (by omega)), if_neg (by rw [show (12 : Int32) = nI 12 from rfl, pu_le _ _ (by omega) (by omega)]; omega), if_pos ((pu_in _ _ (by omega)).mpr hm)]
  simp [b2_t, b2_f, up_at, up_up, up_id, up_wr, wr_rd, h3]
def sBootL : Nat → Int32 → pY → Int32 × pY
  | 0, gv, Y => (gv, Y)
  | d + 1, gv, Y =>
    match sFirstBut (-1) Y with
    | none => (gv, Y)
    | some k => if (sTry Y k).1 then (gv, wr (sTry Y k).2 0 0 11 (nI k)) else sBootL d (gv ||| ((1 : Int32) <<< (nI k &&& 31))) (sTry Y k).2
def sBoot0 (Y : pY) : pY := wr (wr (wr Y 0 0 10 1) 0 0 11 (-1)) 0 0 12 0
def sBoots (c : Int32) (Y : pY) : Int32 × pY :=
  let r := sBootL 6 0 (sBoot0 Y)
  (r.1, sAdd (r.2 0 0 9) c r.1 (r.2 0 0 11) r.2)
theorem itF_ind {σ : Type} {f : Nat → σ → σ} (P : σ → Prop) {N : Nat} (hs : ∀ k a, k < N → P a → P (f k a)) : ∀ d k a, k + d = N → P a → P (itF f d k a) := by
  intro d
  induction d with
  | zero => intro k a _ h; exact h
  | succ d ih => intro k a hk h; exact ih (k + 1) (f k a) (by omega) (hs k a (by omega) h)
theorem sFirst_boot {w : Int32} {Y : pY} {k : Nat} (h : sFirstBut w Y = some k) : k < 6 ∧ sBoot Y k = true ∧ nI k ≠ w := by
  have := itF_ind (N := 6) (f := sFb w Y) (fun b => ∀ k, b = some k → k < 6 ∧ sBoot Y k = true ∧ nI k ≠ w) ?_ 6 0 none rfl (by simp [b2_t, b2_f, up_at, up_up, up_id])
  · exact this k h
  · intro k b hk hb q hq
    unfold sFb at hq
    by_cases hc : (decide (nI k ≠ w) && sBoot Y k && sPref Y k b) = true
    · rw [if_pos hc] at hq
      injection hq with hq
      subst hq
      simp [b2_t, b2_f, up_at, up_up, up_id] at hc
      exact ⟨hk, hc.1.2, hc.1.1⟩
    · rw [if_neg hc] at hq; exact hb q hq
theorem sTry_run {Y : pY} {k : Nat} : (sTry Y k).2 0 0 11 = Y 0 0 11 ∧ (sTry Y k).2 0 0 10 = Y 0 0 10 := by
  unfold sTry sTry1
  by_cases h1 : Y 6 k 5 = 0 <;> by_cases h2 : Y 5 k 4 = 0 <;> simp [b2_t, b2_f, up_at, up_up, up_id, h1, h2, wr_rd]
theorem sTry_has {Y : pY} {k : Nat} (q : Nat) : (sTry Y k).2 6 q 0 = Y 6 q 0 := by
  unfold sTry sTry1
  by_cases h1 : Y 6 k 5 = 0 <;> by_cases h2 : Y 5 k 4 = 0 <;> simp [b2_t, b2_f, up_at, up_up, up_id, h1, h2, wr_rd]
theorem qX3_bootL {g : Nat} {c : Int32} {Q n t : Nat} (hQ : Q < 1000000) : ∀ (d k m : Nat) (gv : Int32) (X : bsX) (Y : pY), k + d = 6 → d < m → wm Q n t Y → Y 0 0 11 = -1 →
    fX3_bootBy_19 g m c gv (nI k) (up X g Y) = some ((sBootL d gv Y).1, up X g (sAdd ((sBootL d gv Y).2 0 0 9) c (sBootL d gv Y).1 ((sBootL d gv Y).2 0 0 11) (sBootL d gv Y).2)) := by
  intro d
  induction d with
  | zero =>
    intro k m gv X Y hk hm hw hr
    obtain ⟨m, rfl⟩ : ∃ z, m = z + 1 := ⟨m - 1, by omega⟩
    obtain rfl : k = 6 := by omega
    simp only [fX3_bootBy_19, fX3_bootBy_91, pu_66, if_true, sBootL]
    rw [qX0_add (Q := Q) (by simpa [b2_t, b2_f, up_at, up_up, up_id] using hw.tot) hQ]
    simp [b2_t, b2_f, up_at, up_up, up_id]
  | succ d ih =>
    intro k m gv X Y hk hm hw hr
    obtain ⟨m, rfl⟩ : ∃ z, m = z + 1 := ⟨m - 1, by omega⟩
    have hk6 : k < 6 := by omega
    obtain ⟨e1, e2⟩ := qX3_firstBut g (-1) (up X g Y) (by simpa [b2_t, b2_f, up_at, up_up, up_id] using hw.s01)
    simp only [fX3_bootBy_19, fX3_bootBy_85, pu_le6 hk6, if_false, up_at, hr, if_true, e1, Option.bind_some, sBootL]
    cases hf : sFirstBut (-1) Y with
    | none =>
      simp only [oI, fX3_bootBy_91, up_at]
      rw [if_pos (by decide), qX0_add (Q := Q) (by simpa [b2_t, b2_f, up_at, up_up, up_id] using hw.tot) hQ]
      simp [b2_t, b2_f, up_at, up_up, up_id]
    | some q =>
      obtain ⟨hq, hb, hne⟩ := sFirst_boot hf
      simp only [oI, pu_lt0 hq, if_false, pu_lt6 hq, if_true, pu_inT hq (by decide), pu_ix6 hq, qX3_try, Option.bind_some, up_at, up_up, pu_succ]
      have hw2 := wm_try hw hq hb
      cases ht : (sTry Y q).1 with
      | false =>
        simp only [b2_f, if_true, Bool.false_eq_true, if_false]
        exact ih (k + 1) m _ X _ (by omega) (by omega) hw2 (by rw [sTry_run.1, hr])
      | true =>
        simp only [b2_t, if_true, up_wr, up_at, up_up]
        rw [if_neg (by decide)]
        obtain ⟨m, rfl⟩ : ∃ z, m = z + 1 := ⟨m - 1, by omega⟩
        have hadd : fX3_bootBy_91 g c gv (up X g (wr (sTry Y q).2 0 0 11 (nI q))) = some (gv, up X g (sAdd ((wr (sTry Y q).2 0 0 11 (nI q)) 0 0 9) c gv ((wr (sTry Y q).2 0 0 11 (nI q)) 0 0 11) (wr (sTry Y q).2 0 0 11 (nI q)))) := by
          simp only [fX3_bootBy_91, up_at]
          rw [qX0_add (Q := Q) (by simpa [b2_t, b2_f, up_at, up_up, up_id, wr_rd] using hw2.tot) hQ]
          simp [b2_t, b2_f, up_at, up_up, up_id]
        simp only [fX3_bootBy_19, up_at]
        rw [hadd]
        have : (wr (sTry Y q).2 0 0 11 (nI q)) 0 0 11 = nI q := by simp [b2_t, b2_f, up_at, up_up, up_id, wr_rd]
        simp only [this, pu_m16 hq, if_false, ite_self]
theorem wm_boot0 {Q n t : Nat} {Y : pY} (h : wm Q n t Y) : wm Q n t (sBoot0 Y) := by
  have h0 := rng.z t
  have h1 : ∀ z, z < n → nI z ≠ -1 := fun z hz => by have := h.hn; exact pu_m1 z (by omega)
  unfold sBoot0
  refine ⟨h.hn, by simpa [b2_t, b2_f, up_at, up_up, up_id, wr_rd] using h.sz, ?_, by simpa [b2_t, b2_f, up_at, up_up, up_id, wr_rd] using h.hi, by simp [b2_t, b2_f, up_at, up_up, up_id, wr_rd, is01], by simp [b2_t, b2_f, up_at, up_up, up_id, wr_rd], by simpa [b2_t, b2_f, up_at, up_up, up_id, wr_rd] using h.wat, by simpa [b2_t, b2_f, up_at, up_up, up_id, wr_rd] using h.lim, by simpa [b2_t, b2_f, up_at, up_up, up_id, wr_rd] using h.ret, by simpa [b2_t, b2_f, up_at, up_up, up_id, wr_rd] using h.flo, by simpa [b2_t, b2_f, up_at, up_up, up_id, wr_rd] using h.tim, by simpa [b2_t, b2_f, up_at, up_up, up_id, wr_rd] using h0, by simpa [b2_t, b2_f, up_at, up_up, up_id, wr_rd] using h.tot, by simpa [b2_t, b2_f, up_at, up_up, up_id, wr_rd] using h.pim, ?_, by simpa [b2_t, b2_f, up_at, up_up, up_id, wr_rd] using h.log⟩
  · intro q hq; simpa [b2_t, b2_f, up_at, up_up, up_id, wS, wr_rd] using h.sl q hq
  · rcases h.ins with hi | ⟨z, hz, hi⟩
    · left; simpa [b2_t, b2_f, up_at, up_up, up_id, wr_rd] using hi
    · right
      refine ⟨z, hz, ?_⟩
      have := (h1 z hz).symm
      simp only [wr_rd]
      simp_all
theorem qX3_bootBy {g : Nat} {c : Int32} {Q n t : Nat} {X : bsX} (hQ : Q < 1000000) (h0 : wm Q n t (sBoot0 (X g))) : fX3_bootBy g c X = some ((sBoots c (X g)).1, up X g (sBoots c (X g)).2) := by
  have := qX3_bootL (g := g) (c := c) hQ 6 0 bsF 0 X (sBoot0 (X g)) rfl (by decide) h0 (by simp [b2_t, b2_f, up_at, up_up, up_id, sBoot0, wr_rd])
  unfold fX3_bootBy sBoots
  rw [show bsWr (bsWr (bsWr X g 0 0 10 1) g 0 0 11 (-1)) g 0 0 12 0 = up X g (sBoot0 (X g)) from by simp [b2_t, b2_f, up_at, up_up, up_id, up_wr, sBoot0]]
  exact this
