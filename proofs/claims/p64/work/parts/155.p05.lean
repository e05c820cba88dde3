theorem wm_bootL {Q n t : Nat} : ∀ (d : Nat) (gv : Int32) (Y : pY), wm Q n t Y → Y 0 0 10 = 1 → wm Q n t (sBootL d gv Y).2 := by
  intro d
  induction d with
  | zero => intro gv Y h _; exact h
  | succ d ih =>
    intro gv Y h ho
    unfold sBootL
    cases hf : sFirstBut (-1) Y with
    | none => exact h
    | some q =>
      obtain ⟨hq, hb, hne⟩ := sFirst_boot hf
      have h2 := wm_try h hq hb
      have ho2 : (sTry Y q).2 0 0 10 = 1 := by rw [sTry_run.2, ho]
      dsimp only
      split
      · have hp : Y 6 q 0 ≠ 0 := (boot_has hb).1
        have hqn : q < n := by
          rcases Nat.lt_or_ge q n with z | z
          · exact z
          · exact absurd (h.hi q z hq).1 hp
        refine ⟨h2.hn, by simpa [b2_t, b2_f, up_at, up_up, up_id, wr_rd] using h2.sz, ?_, by simpa [b2_t, b2_f, up_at, up_up, up_id, wr_rd] using h2.hi, by simpa [b2_t, b2_f, up_at, up_up, up_id, wr_rd] using h2.on, ?_, by simpa [b2_t, b2_f, up_at, up_up, up_id, wr_rd] using h2.wat, by simpa [b2_t, b2_f, up_at, up_up, up_id, wr_rd] using h2.lim, by simpa [b2_t, b2_f, up_at, up_up, up_id, wr_rd] using h2.ret, by simpa [b2_t, b2_f, up_at, up_up, up_id, wr_rd] using h2.flo, by simpa [b2_t, b2_f, up_at, up_up, up_id, wr_rd] using h2.tim, by simpa [b2_t, b2_f, up_at, up_up, up_id, wr_rd] using h2.age, by simpa [b2_t, b2_f, up_at, up_up, up_id, wr_rd] using h2.tot, by simpa [b2_t, b2_f, up_at, up_up, up_id, wr_rd] using h2.pim, ?_, by simpa [b2_t, b2_f, up_at, up_up, up_id, wr_rd] using h2.log⟩
        · intro k hk; simpa [b2_t, b2_f, up_at, up_up, up_id, wS, wr_rd] using h2.sl k hk
        · right; exact ⟨q, hqn, by simp [b2_t, b2_f, up_at, up_up, up_id, wr_rd], by simpa [b2_t, b2_f, up_at, up_up, up_id, wr_rd] using ho2, by simpa [b2_t, b2_f, up_at, up_up, up_id, wr_rd, sTry_has] using hp⟩
        · rcases h2.ins with hi | ⟨z, hz, hi⟩
          · left; simpa [b2_t, b2_f, up_at, up_up, up_id, wr_rd] using hi
          · right
            refine ⟨z, hz, ?_⟩
            have hzq : nI q ≠ nI z := by
              intro e
              have h6 := h.hn
              have e2 := (pu_eq q z (by omega) (by omega)).mp e
              subst e2
              have := hi.2.2.2.2.2.2.2.2.2.2.1
              rw [sTry_has] at this
              exact hp this
            simp only [wr_rd]
            simp_all
      · exact ih _ _ h2 ho2
theorem wm_add {Q n t : Nat} {Y : pY} {c gv r : Int32} (h : wm Q n t Y) (hc : rng c 0 4) (hr : r = Y 0 0 11) (hQ : Q < 1000000) : wm (Q + 1) n t (sAdd (nI t) c gv r Y) := by
  unfold sAdd
  have h6 := h.hn
  have ht : rng (nI t) 0 t := ⟨t, by omega, by omega, rfl⟩
  have htot : rng (Y 3 0 4 + 1) 0 (Q + 1) := by
    obtain ⟨q, h1, h2, h3⟩ := h.tot
    exact ⟨q + 1, by omega, by omega, by rw [h3, pu_succ]⟩
  have hr2 : r = -1 ∨ rng r 0 5 := by
    rcases h.run with e | ⟨z, hz, e, _⟩
    · left; rw [hr, e]
    · right; exact ⟨z, by omega, by omega, by rw [hr, e]⟩
  refine ⟨h.hn, by simpa [b2_t, b2_f, up_at, up_up, up_id, wr_rd] using h.sz, ?_, by simpa [b2_t, b2_f, up_at, up_up, up_id, wr_rd] using h.hi, by simpa [b2_t, b2_f, up_at, up_up, up_id, wr_rd] using h.on, by simpa [b2_t, b2_f, up_at, up_up, up_id, wr_rd] using h.run, by simpa [b2_t, b2_f, up_at, up_up, up_id, wr_rd] using h.wat, by simpa [b2_t, b2_f, up_at, up_up, up_id, wr_rd] using h.lim, by simpa [b2_t, b2_f, up_at, up_up, up_id, wr_rd] using h.ret, by simpa [b2_t, b2_f, up_at, up_up, up_id, wr_rd] using h.flo, by simpa [b2_t, b2_f, up_at, up_up, up_id, wr_rd] using h.tim, by simpa [b2_t, b2_f, up_at, up_up, up_id, wr_rd] using h.age, by simpa [b2_t, b2_f, up_at, up_up, up_id, wr_rd] using htot, by simpa [b2_t, b2_f, up_at, up_up, up_id, wr_rd] using h.pim, by simpa [b2_t, b2_f, up_at, up_up, up_id, wr_rd] using h.ins, ?_⟩
  · intro k hk; simpa [b2_t, b2_f, up_at, up_up, up_id, wS, wr_rd] using h.sl k hk
  · intro i hi
    have hl := h.log i hi
    by_cases e : i = bsIx (Y 3 0 4) % 12
    · simp only [wr_rd, e]
      refine ⟨?_, ?_, ?_⟩ <;> simp [b2_t, b2_f, up_at, up_up, up_id]
      · exact ht
      · exact hc
      · exact hr2
    · simpa [b2_t, b2_f, up_at, up_up, up_id, wr_rd, e] using hl
theorem wm_boots {Q n t : Nat} {Y : pY} {c : Int32} (h0 : wm Q n t (sBoot0 Y)) (hc : rng c 0 4) (hQ : Q < 1000000) : wm (Q + 1) n t (sBoots c Y).2 := by
  have h1 := wm_bootL 6 0 _ h0 (by simp [b2_t, b2_f, up_at, up_up, up_id, sBoot0, wr_rd])
  unfold sBoots
  dsimp only
  rw [h1.tim]
  exact wm_add h1 hc rfl hQ
/-! CRASH, SUCCESS, OLDER -/
def sCrash (k : Nat) (Y : pY) : pY :=
  let Z := wr (wr Y 4 0 2 (Y 4 0 2 + 1)) 5 k 5 (Y 5 k 5 + 1)
  if Y 5 k 4 ≠ 0 ∧ Y 0 0 6 ≤ Y 5 k 5 + 1 then wr (wr (wr Z 5 k 4 0) 5 k 3 (Y 0 0 7)) 5 k 5 0 else Z
theorem qX3_crash (g k : Nat) (X : bsX) : fX3_crash g k X = some (up X g (sCrash k (X g))) := by
  unfold fX3_crash sCrash
  by_cases h1 : X g 5 k 4 = 0 <;> by_cases h2 : X g 5 k 5 + 1 < X g 0 0 6 <;> simp [b2_t, b2_f, up_at, up_up, up_id, h1, h2, up_wr, wr_rd]
  · have := pu_nle.mpr h2; simp [b2_t, b2_f, up_at, up_up, up_id, this]
  · have := pu_nlt.mp h2; simp [b2_t, b2_f, up_at, up_up, up_id, this]
def sSucc1 (k : Nat) (Y : pY) : pY := wr (if Y 5 k 4 = 0 then wr (wr (wr (wr Y 5 k 4 1) 5 k 3 0) 5 k 8 (Y 5 k 8 + 1)) 4 0 4 (Y 4 0 4 + 1) else Y) 5 k 5 0
def sSucc (k : Nat) (Y : pY) : pY := wr (sSucc1 k Y) 0 0 8 (sFloorBy (-1) (sSucc1 k Y))
theorem qX3_succ (g k : Nat) (X : bsX) : fX3_succeed g k X = some (up X g (sSucc k (X g))) := by
  unfold fX3_succeed fX3_succeed_40 sSucc sSucc1
  by_cases h1 : X g 5 k 4 = 0 <;> simp [b2_t, b2_f, up_at, up_up, up_id, h1, up_wr, wr_rd, qX3_floorBy]
/-- one tick older: (what boots now, contents) -/
def sOlder (k : Nat) (Y : pY) : Int32 × pY :=
  let Z := wr Y 0 0 12 (Y 0 0 12 + 1)
  if Y 0 0 12 + 1 = Y 6 k 3 then (2, sCrash k Z) else if Y 0 0 12 + 1 = Y 6 k 2 then (-1, sSucc k Z) else if Y 0 0 12 + 1 = Y 0 0 5 ∧ Y 5 k 4 = 0 then (3, wr Z 4 0 3 (Y 4 0 3 + 1)) else (-1, Z)
theorem qX3_older (g k : Nat) (X : bsX) : fX3_growOlder g k X = some ((sOlder k (X g)).1, up X g (sOlder k (X g)).2) := by
  unfold fX3_growOlder sOlder
  simp only [up_wr, up_at, wr_rd, qX3_crash, qX3_succ, Option.bind_some, up_up]
  by_cases h1 : X g 0 0 12 + 1 = X g 6 k 3 <;> by_cases h2 : X g 0 0 12 + 1 = X g 6 k 2 <;> by_cases h3 : X g 0 0 12 + 1 = X g 0 0 5 <;> by_cases h4 : X g 5 k 4 = 0 <;> simp [b2_t, b2_f, up_at, up_up, up_id, h1, h2, h3, h4]
  all_goals grind
