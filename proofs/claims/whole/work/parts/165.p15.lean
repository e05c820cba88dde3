/-! THE REFERENCE'S BOOTS, to the end -/
def n2 (b : Bool) : Nat := if b then 1 else 0
def cnt (b : Nat → Bool) : Nat := n2 (b 0) + n2 (b 1) + n2 (b 2) + n2 (b 3) + n2 (b 4) + n2 (b 5)
theorem n2_le {a b : Bool} (h : a = true → b = true) : n2 a ≤ n2 b := by
  cases a <;> cases b <;> simp [b2_t, b2_f, up_at, up_up, up_id, n2] at *
theorem cnt_6 (b : Nat → Bool) : cnt b ≤ 6 := by
  have h : ∀ x, n2 x ≤ 1 := by intro x; cases x <;> decide
  have := h (b 0); have := h (b 1); have := h (b 2); have := h (b 3); have := h (b 4); have := h (b 5)
  unfold cnt; omega
theorem cnt_pos {b : Nat → Bool} {q : Nat} (hq : q < 6) (h : b q = true) : 0 < cnt b := by
  have : q = 0 ∨ q = 1 ∨ q = 2 ∨ q = 3 ∨ q = 4 ∨ q = 5 := by omega
  unfold cnt
  rcases this with rfl | rfl | rfl | rfl | rfl | rfl <;> rw [h] <;> simp only [n2, if_true] <;> omega
theorem cnt_lt {b b' : Nat → Bool} (h : ∀ k, k < 6 → b' k = true → b k = true) {q : Nat} (hq : q < 6) (h1 : b q = true) (h2 : b' q = false) : cnt b' < cnt b := by
  have a0 := n2_le (h 0 (by omega)); have a1 := n2_le (h 1 (by omega)); have a2 := n2_le (h 2 (by omega))
  have a3 := n2_le (h 3 (by omega)); have a4 := n2_le (h 4 (by omega)); have a5 := n2_le (h 5 (by omega))
  have e1 : n2 true = 1 := rfl
  have e0 : n2 false = 0 := rfl
  have : q = 0 ∨ q = 1 ∨ q = 2 ∨ q = 3 ∨ q = 4 ∨ q = 5 := by omega
  unfold cnt
  rcases this with rfl | rfl | rfl | rfl | rfl | rfl <;> rw [h1, h2, e1, e0] at * <;> omega
theorem sTry_boot {Y : pY} {q k : Nat} (hf : (sTry Y q).1 = false) : sBoot (sTry Y q).2 k = if k = q then false else sBoot Y k := by
  have c0 : ¬ (0 : Int32) < 0 := by decide
  unfold sTry at hf ⊢
  by_cases h1 : Y 6 q 5 = 0
  · simp [b2_t, b2_f, up_at, up_up, up_id, h1] at hf
  · simp only [h1, if_false]
    unfold sTry1 sBoot sBootF
    by_cases e : k = q <;> by_cases e2 : Y 5 q 4 = 0 <;> simp [b2_t, b2_f, up_at, up_up, up_id, wr_rd, e, e2]
theorem sFirst_none {Y : pY} (h : cnt (sBoot Y) = 0) : sFirstBut (-1) Y = none := by
  cases hf : sFirstBut (-1) Y with
  | none => rfl
  | some q =>
    obtain ⟨hq, hb, _⟩ := sFirst_boot hf
    have := cnt_pos (b := sBoot Y) hq hb
    omega
/-- the end of a boot in the reference -/
theorem q9_bend {cs gv a b c : Int32} {X : bsX} {Q n t : Nat} {Y : pY} (hQ : Q < 1000000) (h : wm Q n t Y) :
    fX9_boots_34 cs gv (-1 : Int32) (ro X (row Y a b c)) = some (gv, ro X (row (sAdd (Y 0 0 9) cs gv (-1) Y) 2 (-1) 0)) ∧
    ∀ k, k < 6 → fX9_boots_34 cs gv (nI k) (ro X (row Y a b c)) = some (gv, ro X (row (sAdd (Y 0 0 9) cs gv (nI k) (wr Y 5 k 6 (Y 5 k 6 + 1))) 1 (nI k) 0)) := by
  constructor
  · simp only [fX9_boots_34, fX9_boots_66, fX9_boots_86, bi_0, bx_0, bi_1, bx_1, bi_2, bx_2, bi_3, bx_3, bi_4, bx_4, bi_5, bx_5, bi_6, bx_6, bi_7, bx_7, bi_8, bx_8, bi_9, bx_9, bi_10, bx_10, bi_11, bx_11, bi_12, bx_12, bi_13, bx_13, bi_14, bx_14, bi_15, bx_15, bi_16, bx_16, bi_17, bx_17, bi_18, bx_18, bi_19, bx_19, bi_20, bx_20, bi_21, bx_21, bi_22, bx_22, bi_23, bx_23, bi_24, bx_24, bi_25, bx_25, bi_26, bx_26, bi_27, bx_27, bi_28, bx_28, if_true, rw_wr1, rw_wr2, rw_wr3, rw_wr4, rw_wr5, rw_wr6, rw_wr7, rw_wr8, rw_wr13, rw_wr14, rw_wr15, rw_wr16, rw_wr17, rw_wr18, rw_wr19]
    rw [q9_tells hQ h.tot]
    rfl
  · intro k hk
    simp only [fX9_boots_34, fX9_boots_66, fX9_boots_86, bi_0, bx_0, bi_1, bx_1, bi_2, bx_2, bi_3, bx_3, bi_4, bx_4, bi_5, bx_5, bi_6, bx_6, bi_7, bx_7, bi_8, bx_8, bi_9, bx_9, bi_10, bx_10, bi_11, bx_11, bi_12, bx_12, bi_13, bx_13, bi_14, bx_14, bi_15, bx_15, bi_16, bx_16, bi_17, bx_17, bi_18, bx_18, bi_19, bx_19, bi_20, bx_20, bi_21, bx_21, bi_22, bx_22, bi_23, bx_23, bi_24, bx_24, bi_25, bx_25, bi_26, bx_26, bi_27, bx_27, bi_28, bx_28, if_true, rw_wr1, rw_wr2, rw_wr3, rw_wr4, rw_wr5, rw_wr6, rw_wr7, rw_wr8, rw_wr13, rw_wr14, rw_wr15, rw_wr16, rw_wr17, rw_wr18, rw_wr19, pu_m16 hk, if_false, q9_of5 hk, q9_pu5 hk, Option.bind_some]
    rw [q9_tells hQ (by simpa [b2_t, b2_f, up_at, up_up, up_id, wr_rd] using h.tot)]
    simp [b2_t, b2_f, up_at, up_up, up_id, wr_rd]
def run2 (r : Int32) : Int32 := if r = -1 then 2 else 1
theorem q9_bootL {cs : Int32} {Q n t : Nat} (hQ : Q < 1000000) {X : bsX} {a b c : Int32} : ∀ (d m : Nat) (gv : Int32) (Y : pY), cnt (sBoot Y) ≤ d → d < m → wm Q n t Y → Y 0 0 11 = -1 →
    fX9_boots_7 m cs gv (oI (sFirstBut (-1) Y)) (ro X (row Y a b c)) = some ((sBootL d gv Y).1, ro X (row (sAdd ((sBootL d gv Y).2 0 0 9) cs (sBootL d gv Y).1 ((sBootL d gv Y).2 0 0 11) (sBootL d gv Y).2) (run2 ((sBootL d gv Y).2 0 0 11)) ((sBootL d gv Y).2 0 0 11) 0)) := by
  intro d
  induction d with
  | zero =>
    intro m gv Y hc hm h hr
    obtain ⟨m, rfl⟩ : ∃ z, m = z + 1 := ⟨m - 1, by omega⟩
    rw [sFirst_none (by omega)]
    simp only [oI, fX9_boots_7, if_true, sBootL]
    rw [(q9_bend hQ h).1, hr]
    rfl
  | succ d ih =>
    intro m gv Y hc hm h hr
    obtain ⟨m, rfl⟩ : ∃ z, m = z + 1 := ⟨m - 1, by omega⟩
    unfold sBootL
    cases hf : sFirstBut (-1) Y with
    | none =>
      simp only [oI, fX9_boots_7, if_true]
      rw [(q9_bend hQ h).1, hr]
      rfl
    | some q =>
      obtain ⟨hq, hb, _⟩ := sFirst_boot hf
      have hs := h.sl q hq
      have h2 := wm_try h hq hb
      simp only [oI, fX9_boots_7, pu_m16 hq, if_false, q9_tries hq hs.2.2.2.1, Option.bind_some]
      cases ht : (sTry Y q).1 with
      | false =>
        have hlt : cnt (sBoot (sTry Y q).2) < cnt (sBoot Y) := cnt_lt (fun k hk => by rw [sTry_boot ht]; by_cases e : k = q <;> simp [b2_t, b2_f, up_at, up_up, up_id, e]) hq hb (by rw [sTry_boot ht]; simp [b2_t, b2_f, up_at, up_up, up_id])
        simp only [b2_f, if_true, Bool.false_eq_true, if_false, q9_first h2, Option.bind_some]
        exact ih m _ _ (by omega) (by omega) h2 (by rw [sTry_run.1, hr])
      | true =>
        have c10 : ¬ (1 : Int32) = 0 := by decide
        have e1 : (sTry Y q).2 = wr (sTry1 Y q) 5 q 6 (Y 5 q 6 + 1) := by
          unfold sTry at ht ⊢
          by_cases h1 : Y 6 q 5 = 0
          · simp [b2_t, b2_f, up_at, up_up, up_id, h1]
          · simp [b2_t, b2_f, up_at, up_up, up_id, h1] at ht
        have e2 : sTry1 Y q 5 q 6 = Y 5 q 6 := by unfold sTry1; by_cases z : Y 5 q 4 = 0 <;> simp [b2_t, b2_f, up_at, up_up, up_id, z, wr_rd]
        have e3 : sTry1 Y q 0 0 9 = Y 0 0 9 := by unfold sTry1; by_cases z : Y 5 q 4 = 0 <;> simp [b2_t, b2_f, up_at, up_up, up_id, z, wr_rd]
        have hw1 : wm Q n t (sTry1 Y q) := by
          refine h2.of ?_ ?_ ?_ ?_ ?_ ?_ ?_ ?_ ?_ ?_ (Nat.le_refl _)
          · rw [e1]; simp [b2_t, b2_f, up_at, up_up, up_id, wr_rd]
          · have := h2.flo; rw [e1] at this; simpa [b2_t, b2_f, up_at, up_up, up_id, wr_rd] using this
          · have := h2.tim; rw [e1] at this; simpa [b2_t, b2_f, up_at, up_up, up_id, wr_rd] using this
          · have := h2.age; rw [e1] at this; simpa [b2_t, b2_f, up_at, up_up, up_id, wr_rd] using this
          · have := h2.tot; rw [e1] at this; simpa [b2_t, b2_f, up_at, up_up, up_id, wr_rd] using this
          · rw [e1]; simp [b2_t, b2_f, up_at, up_up, up_id, wr_rd]
          · intro k hk; have := h2.sl k hk; rw [e1] at this; simpa [b2_t, b2_f, up_at, up_up, up_id, wS, wr_rd] using this
          · intro k hk; rw [e1]; simp [b2_t, b2_f, up_at, up_up, up_id, wr_rd]
          · intro k h1 hk
            have := (h2.hi k h1 hk).2
            have hqn : q < n := by
              rcases Nat.lt_or_ge q n with z | z
              · exact z
              · exact absurd (h.hi q z hq).1 (boot_has hb).1
            have : k ≠ q := by omega
            have h3 := (h2.hi k h1 hk).2
            rw [e1] at h3
            simpa [b2_t, b2_f, up_at, up_up, up_id, wr_rd, this] using h3
          · intro i hi; rw [e1]; simp [b2_t, b2_f, up_at, up_up, up_id, wr_rd]
        simp only [b2_t, c10, if_true, if_false]
        rw [(q9_bend hQ hw1).2 q hq, e2, e3, ← e1]
        have e4 : (sTry Y q).2 0 0 9 = Y 0 0 9 := by rw [e1]; simp [b2_t, b2_f, up_at, up_up, up_id, wr_rd, e3]
        have e5 : ∀ v w, row (sAdd v cs gv w (wr (sTry Y q).2 0 0 11 (nI q))) 1 (nI q) 0 = row (sAdd v cs gv w (sTry Y q).2) 1 (nI q) 0 := by
          intro v w
          have : sAdd v cs gv w (wr (sTry Y q).2 0 0 11 (nI q)) = wr (sAdd v cs gv w (sTry Y q).2) 0 0 11 (nI q) := by
            funext K j i
            unfold sAdd
            simp only [wr_rd]
            grind
          rw [this, row_N (by decide)]
        simp [b2_t, b2_f, up_at, up_up, up_id, wr_rd, e4, pu_m16 hq, e5, run2]
theorem enc_of {Z : pY} (z1 : Z 0 0 10 = 1) (z2 : Z 0 0 12 = 0) : row Z (run2 (Z 0 0 11)) (Z 0 0 11) 0 = enc Z := by
  have e : sSt Z = run2 (Z 0 0 11) := by unfold sSt run2; rw [z1, if_neg (by decide)]
  unfold enc
  rw [e, z2]
theorem sBootL_on : ∀ (d : Nat) (gv : Int32) (Z : pY), Z 0 0 10 = 1 ∧ Z 0 0 12 = 0 → (sBootL d gv Z).2 0 0 10 = 1 ∧ (sBootL d gv Z).2 0 0 12 = 0 := by
  intro d
  induction d with
  | zero => intro gv Z hz; exact hz
  | succ d ih =>
    intro gv Z hz
    unfold sBootL
    cases sFirstBut (-1) Z with
    | none => exact hz
    | some q =>
      have e12 : (sTry Z q).2 0 0 12 = Z 0 0 12 := by
        unfold sTry sTry1
        by_cases h1 : Z 6 q 5 = 0 <;> by_cases h2 : Z 5 q 4 = 0 <;> simp [b2_t, b2_f, up_at, up_up, up_id, h1, h2, wr_rd]
      dsimp only
      split
      · simp [b2_t, b2_f, up_at, up_up, up_id, wr_rd, sTry_run.2, e12, hz]
      · exact ih _ _ (by rw [sTry_run.2, e12]; exact hz)
theorem sBoots_1 (cs : Int32) (Y : pY) : (sBoots cs Y).1 = (sBootL 6 0 (sBoot0 Y)).1 := by unfold sBoots; dsimp only
theorem sBoots_2 (cs : Int32) (Y : pY) : (sBoots cs Y).2 = sAdd ((sBootL 6 0 (sBoot0 Y)).2 0 0 9) cs (sBootL 6 0 (sBoot0 Y)).1 ((sBootL 6 0 (sBoot0 Y)).2 0 0 11) (sBootL 6 0 (sBoot0 Y)).2 := by unfold sBoots; dsimp only
theorem sBoots_enc {cs : Int32} {Y : pY} : row (sBoots cs Y).2 (run2 ((sBootL 6 0 (sBoot0 Y)).2 0 0 11)) ((sBootL 6 0 (sBoot0 Y)).2 0 0 11) 0 = enc (sBoots cs Y).2 := by
  have hh := sBootL_on 6 0 (sBoot0 Y) (by simp [b2_t, b2_f, up_at, up_up, up_id, sBoot0, wr_rd])
  rw [sBoots_2]
  generalize sBootL 6 0 (sBoot0 Y) = r at *
  have e11 := sAdd_K (t := r.2 0 0 9) (c := cs) (gv := r.1) (r := r.2 0 0 11) (Y := r.2) (K := 0) (j := 0) (i := 11) (by decide) (by decide)
  have e10 := sAdd_K (t := r.2 0 0 9) (c := cs) (gv := r.1) (r := r.2 0 0 11) (Y := r.2) (K := 0) (j := 0) (i := 10) (by decide) (by decide)
  have e12 := sAdd_K (t := r.2 0 0 9) (c := cs) (gv := r.1) (r := r.2 0 0 11) (Y := r.2) (K := 0) (j := 0) (i := 12) (by decide) (by decide)
  have h := enc_of (Z := sAdd (r.2 0 0 9) cs r.1 (r.2 0 0 11) r.2) (by rw [e10]; exact hh.1) (by rw [e12]; exact hh.2)
  rw [e11] at h
  exact h
theorem q9_boots {cs : Int32} {Q n t : Nat} (hQ : Q < 1000000) {X : bsX} {a b c : Int32} {Y : pY} (h : wm Q n t (sBoot0 Y)) : fX9_boots cs (ro X (row Y a b c)) = some ((sBoots cs Y).1, ro X (enc (sBoots cs Y).2)) := by
  have hF : 6 < bsF := by unfold bsF; omega
  have h1 := q9_bootL (cs := cs) hQ (X := X) (a := a) (b := b) (c := c) 6 bsF 0 (sBoot0 Y) (cnt_6 _) hF h (by simp [b2_t, b2_f, up_at, up_up, up_id, sBoot0, wr_rd])
  have h0 : fX9_boots cs (ro X (row (sBoot0 Y) a b c)) = fX9_boots_7 bsF cs 0 (oI (sFirstBut (-1) (sBoot0 Y))) (ro X (row (sBoot0 Y) a b c)) := by
    unfold fX9_boots
    rw [q9_first h, Option.bind_some]
  rw [← sBoots_enc, sBoots_1, sBoots_2, ← row_boot0, h0, h1]
