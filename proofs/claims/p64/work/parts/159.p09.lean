theorem itF_ix {σ : Type} {f : Nat → σ → σ} (P : Nat → σ → Prop) {N : Nat} (hs : ∀ k a, k < N → P k a → P (k + 1) (f k a)) : ∀ d k a, k + d = N → P k a → P N (itF f d k a) := by
  intro d
  induction d with
  | zero => intro k a hk h; simp only [Nat.add_zero] at hk; subst hk; exact h
  | succ d ih => intro k a hk h; exact ih (k + 1) (f k a) (by omega) (hs k a (by omega) h)
theorem sRoom_at {a : Int32} {Y : pY} (h15 : 15 ≤ sGreat a Y) : ∀ k, k < 6 → sRoom a Y 5 k 2 = if nI k ≠ a ∧ 1 < Y 5 k 2 then Y 5 k 2 - 1 else Y 5 k 2 := by
  unfold sRoom
  rw [if_pos h15]
  have := itF_ix (f := sRoomF a) (N := 6) (fun m Z => ∀ k, k < 6 → Z 5 k 2 = if k < m ∧ nI k ≠ a ∧ 1 < Y 5 k 2 then Y 5 k 2 - 1 else Y 5 k 2) ?_ 6 0 Y rfl (by simp [b2_t, b2_f, up_at, up_up, up_id])
  · intro k hk
    have h := this k hk
    simpa [b2_t, b2_f, up_at, up_up, up_id, hk] using h
  · intro m Z hm hZ k hk
    unfold sRoomF
    have h1 := hZ m hm
    have h2 := hZ k hk
    simp only [Nat.lt_irrefl, false_and, if_false] at h1
    by_cases e : k = m
    · subst e
      simp only [h1]
      split
      · rename_i hc; simp [b2_t, b2_f, up_at, up_up, up_id, wr_rd, hc]
      · rename_i hc
        rw [h1, if_neg (fun q => hc ⟨q.2.1, q.2.2⟩)]
    · have e2 : (k < m + 1) = (k < m) := by simp [b2_t, b2_f, up_at, up_up, up_id]; omega
      simp only [e2]
      split
      · rw [wr_rd, if_neg (by omega)]; exact h2
      · exact h2
theorem sGreat_lt {a b : Int32} {Y : pY} (hb : 0 < b) (h : ∀ k, k < 6 → nI k ≠ a → Y 5 k 2 < b) : sGreat a Y < b := by
  refine itF_ind (N := 6) (f := sGreatF a Y) (fun x => x < b) ?_ 6 0 _ rfl hb
  intro k x hk hx
  unfold sGreatF
  split
  · exact hx
  · rename_i e
    have := h k hk e
    unfold bsMax; split
    · exact this
    · exact hx
theorem sGreat_room {a : Int32} {Y : pY} (hw : ∀ k, k < 6 → rng (Y 5 k 2) 0 15) : sGreat a (sRoom a Y) < 15 := by
  by_cases h15 : 15 ≤ sGreat a Y
  · refine sGreat_lt (by decide) fun k hk hne => ?_
    rw [sRoom_at h15 k hk]
    obtain ⟨m, h1, h2, h3⟩ := hw k hk
    rw [h3]
    split
    · rename_i hc
      have h4 : 1 < m := (pu_lt 1 m (by omega) (by decide)).mp hc.2
      rw [show (1 : Int32) = nI 1 from rfl, pu_sub _ _ (by omega), show (15 : Int32) = nI 15 from rfl, pu_lt _ _ (by decide) (by omega)]
      omega
    · rename_i hc
      have h4 : ¬ 1 < nI m := fun q => hc ⟨hne, q⟩
      rw [show (1 : Int32) = nI 1 from rfl, pu_lt _ _ (by omega) (by decide)] at h4
      rw [show (15 : Int32) = nI 15 from rfl, pu_lt _ _ (by decide) (by omega)]
      omega
  · unfold sRoom
    rw [if_neg h15]
    exact pu_nle.mp h15
theorem sGreat_img {a : Int32} {Y : pY} {j : Nat} {f : Nat → Int32} : sGreat a (sImg Y j f) = sGreat a Y := by
  have : sGreatF a (sImg Y j f) = sGreatF a Y := by
    funext k b; unfold sGreatF sImg; simp [b2_t, b2_f, up_at, up_up, up_id, wr_rd]
  unfold sGreat; rw [this]
/-! A TICK -/
def sRun (Y : pY) : Option Nat := if Y 0 0 11 < 0 then none else if 6 ≤ Y 0 0 11 then none else some (bsIx (Y 0 0 11))
def sResc (Y : pY) : Bool := Y 0 0 10 ≠ 0 && (sRun Y).isNone
theorem wm.hrun {Q n t : Nat} {Y : pY} (h : wm Q n t Y) : (Y 0 0 11 = -1 ∧ sRun Y = none) ∨ ∃ r, r < n ∧ Y 0 0 11 = nI r ∧ sRun Y = some r ∧ Y 0 0 10 = 1 ∧ Y 6 r 0 ≠ 0 := by
  have h6 := h.hn
  rcases h.run with e | ⟨r, hr, e, e2, e3⟩
  · left; refine ⟨e, ?_⟩; unfold sRun; rw [e]; decide
  · right
    refine ⟨r, hr, e, ?_, e2, e3⟩
    unfold sRun
    have hr6 : r < 6 := by omega
    rw [e]
    simp only [pu_lt0 hr6, pu_le6 hr6, if_false, pu_ix6 hr6]
theorem qX3_resc {g : Nat} {X : bsX} : fX3_isInRescue g X = some (b2 (sResc (X g)), X) := by
  unfold fX3_isInRescue fX3_isRunning sResc sRun
  by_cases h1 : X g 0 0 10 = 0 <;> by_cases h2 : X g 0 0 11 < 0 <;> by_cases h3 : 6 ≤ X g 0 0 11 <;> simp [b2_t, b2_f, up_at, up_up, up_id, h1, h2, h3]
def sTick2 (Y : pY) : pY :=
  if Y 0 0 10 = 0 then Y else if Y 2 0 1 < 0 then Y else
    let Z := wr Y 2 0 2 (Y 2 0 2 - 1)
    if 0 < Y 2 0 2 - 1 then Z else
      let W := wr (sTake (bsIx (Y 2 0 1)) Z) 4 0 6 (Y 4 0 6 + 1)
      if sResc W then (sBoots 4 W).2 else W
def sTick1 (Y : pY) : pY := wr (if sResc Y then wr Y 4 0 5 (Y 4 0 5 + 1) else Y) 0 0 9 (Y 0 0 9 + 1)
def sTickR (Y : pY) : pY :=
  match sRun Y with
  | none => Y
  | some r => if (sOlder r Y).1 = -1 then (sOlder r Y).2 else (sBoots (sOlder r Y).1 (sOlder r Y).2).2
def sTick (Y : pY) : pY := sTick2 (sTickR (sTick1 Y))
theorem qX3_tick2 {g Q n t : Nat} {X : bsX} (hQ : Q + 1 < 1000000) (h : wm Q n t (X g)) : fX3_passTick_71 g X = some (up X g (sTick2 (X g))) ∧ wm (Q + 1) n t (sTick2 (X g)) := by
  have h6 := h.hn
  unfold fX3_passTick_71 fX2_goOn fX2_isOn sTick2
  by_cases h1 : X g 0 0 10 = 0
  · simp only [h1, if_true, up_id]; exact ⟨trivial, h.up (by omega)⟩
  · rcases h.ins with hi | ⟨z, hz, hi⟩
    · have e : (-1 : Int32) < 0 := by decide
      simp only [h1, if_false, hi, e, if_true, Option.bind_some, up_id]
      exact ⟨trivial, h.up (by omega)⟩
    · obtain ⟨ht, hl, i3, i0, i4, i5, j1, j2, j3, hon, hz0, hrz⟩ := hi
      have hz6 : z < 6 := by omega
      obtain ⟨m, hm1, hm2, hm3⟩ := hl
      have hm4 : X g 2 0 2 - 1 = nI (m - 1) := by rw [hm3, ← pu_sub _ _ hm1]; rfl
      have c10 : (1 : Int32) ≠ 0 := by decide
      simp only [h1, if_false, ht, pu_lt0 hz6, Option.bind_some, c10, up_wr, up_at, wr_rd, and_self, if_true, hm4]
      have hwZ : 0 < nI (m - 1) → wm Q n t (wr (X g) 2 0 2 (nI (m - 1))) := by
        intro hpos
        have hm5 : 0 < m - 1 := (pu_lt 0 (m - 1) (by omega) (by decide)).mp hpos
        refine ⟨h.hn, by simpa [b2_t, b2_f, up_at, up_up, up_id, wr_rd] using h.sz, fun q hq => by simpa [b2_t, b2_f, up_at, up_up, up_id, wS, wr_rd] using h.sl q hq, by simpa [b2_t, b2_f, up_at, up_up, up_id, wr_rd] using h.hi, by simpa [b2_t, b2_f, up_at, up_up, up_id, wr_rd] using h.on, by simpa [b2_t, b2_f, up_at, up_up, up_id, wr_rd] using h.run, by simpa [b2_t, b2_f, up_at, up_up, up_id, wr_rd] using h.wat, by simpa [b2_t, b2_f, up_at, up_up, up_id, wr_rd] using h.lim, by simpa [b2_t, b2_f, up_at, up_up, up_id, wr_rd] using h.ret, by simpa [b2_t, b2_f, up_at, up_up, up_id, wr_rd] using h.flo, by simpa [b2_t, b2_f, up_at, up_up, up_id, wr_rd] using h.tim, by simpa [b2_t, b2_f, up_at, up_up, up_id, wr_rd] using h.age, by simpa [b2_t, b2_f, up_at, up_up, up_id, wr_rd] using h.tot, by simpa [b2_t, b2_f, up_at, up_up, up_id, wr_rd] using h.pim, ?_, by simpa [b2_t, b2_f, up_at, up_up, up_id, wr_rd] using h.log⟩
        right
        refine ⟨z, hz, ?_⟩
        simp only [wr_rd]
        simp_all
        exact ⟨m - 1, by omega, by omega, rfl⟩
      by_cases hp : 0 < nI (m - 1)
      · simp only [hp, if_true, Option.bind_some]
        exact ⟨trivial, (hwZ hp).up (by omega)⟩
      · have htk := qX3_take (g := g) (z := z) (X := up X g (wr (X g) 2 0 2 (nI (m - 1)))) hz6 (by simpa [b2_t, b2_f, up_at, up_up, up_id, wr_rd] using ht) (by simp [b2_t, b2_f, up_at, up_up, up_id, wr_rd, i0, is01]) (by simpa [b2_t, b2_f, up_at, up_up, up_id, wr_rd] using i4) (by simpa [b2_t, b2_f, up_at, up_up, up_id, wr_rd] using i5)
        have hw1 : wm Q n t (sTake z (wr (X g) 2 0 2 (nI (m - 1)))) := by
          refine wm_take h.hn (by simpa [b2_t, b2_f, up_at, up_up, up_id, wr_rd] using h.sz) (fun q hq => by simpa [b2_t, b2_f, up_at, up_up, up_id, wS, wr_rd] using h.sl q hq) (by simpa [b2_t, b2_f, up_at, up_up, up_id, wr_rd] using h.hi) (by simpa [b2_t, b2_f, up_at, up_up, up_id, wr_rd] using h.on) ?_ (by simpa [b2_t, b2_f, up_at, up_up, up_id, wr_rd] using h.wat) (by simpa [b2_t, b2_f, up_at, up_up, up_id, wr_rd] using h.lim) (by simpa [b2_t, b2_f, up_at, up_up, up_id, wr_rd] using h.ret) (by simpa [b2_t, b2_f, up_at, up_up, up_id, wr_rd] using h.flo) (by simpa [b2_t, b2_f, up_at, up_up, up_id, wr_rd] using h.tim) (by simpa [b2_t, b2_f, up_at, up_up, up_id, wr_rd] using h.age) (by simpa [b2_t, b2_f, up_at, up_up, up_id, wr_rd] using h.tot) hz (by simpa [b2_t, b2_f, up_at, up_up, up_id, wr_rd] using i3) (by simpa [b2_t, b2_f, up_at, up_up, up_id, wr_rd] using i0) (by simpa [b2_t, b2_f, up_at, up_up, up_id, wr_rd] using i4) (by simpa [b2_t, b2_f, up_at, up_up, up_id, wr_rd] using i5) (by simpa [b2_t, b2_f, up_at, up_up, up_id, wr_rd] using j1) (by simpa [b2_t, b2_f, up_at, up_up, up_id, wr_rd] using j2) (by simpa [b2_t, b2_f, up_at, up_up, up_id, wr_rd] using j3) (by simpa [b2_t, b2_f, up_at, up_up, up_id, wr_rd] using h.log) ?_
          · rcases h.run with e | ⟨r, hr, e1, e2, e3⟩
            · left; simpa [b2_t, b2_f, up_at, up_up, up_id, wr_rd] using e
            · right; exact ⟨r, hr, by simpa [b2_t, b2_f, up_at, up_up, up_id, wr_rd] using e1, by simpa [b2_t, b2_f, up_at, up_up, up_id, wr_rd] using e2, Or.inl (by simpa [b2_t, b2_f, up_at, up_up, up_id, wr_rd] using e3)⟩
          · rw [sGreat_img]
            exact sGreat_room (fun k hk => by have := (h.sl k hk).2.2.2.2.1; simpa [b2_t, b2_f, up_at, up_up, up_id, wr_rd] using this)
        have hw2 : ∀ v, wm Q n t (wr (sTake z (wr (X g) 2 0 2 (nI (m - 1)))) 4 0 6 v) := fun v => hw1.of (by simp [b2_t, b2_f, up_at, up_up, up_id, wr_rd]) (by simpa [b2_t, b2_f, up_at, up_up, up_id, wr_rd] using hw1.flo) (by simpa [b2_t, b2_f, up_at, up_up, up_id, wr_rd] using hw1.tim) (by simpa [b2_t, b2_f, up_at, up_up, up_id, wr_rd] using hw1.age) (by simpa [b2_t, b2_f, up_at, up_up, up_id, wr_rd] using hw1.tot) (by simp [b2_t, b2_f, up_at, up_up, up_id, wr_rd]) (fun q hq => by simpa [b2_t, b2_f, up_at, up_up, up_id, wS, wr_rd] using hw1.sl q hq) (by simp [b2_t, b2_f, up_at, up_up, up_id, wr_rd]) (fun q h1 h2 => by simpa [b2_t, b2_f, up_at, up_up, up_id, wr_rd] using (hw1.hi q h1 h2).2) (by simp [b2_t, b2_f, up_at, up_up, up_id, wr_rd]) (Nat.le_refl _)
        have h46 : sTake z (wr (X g) 2 0 2 (nI (m - 1))) 4 0 6 = X g 4 0 6 := by
          unfold sTake
          rw [sStop_rd (by decide) (by decide)]
          simp [b2_t, b2_f, up_at, up_up, up_id, wr_rd, sImg]
          rw [sRoom_else (by omega)]
          simp [b2_t, b2_f, up_at, up_up, up_id, wr_rd]
        simp only [hp, if_false, htk, Option.bind_some, up_up, up_at, qX3_resc, pu_ix6 hz6, h46]
        cases hr : sResc (wr (sTake z (wr (X g) 2 0 2 (nI (m - 1)))) 4 0 6 (X g 4 0 6 + 1)) with
        | false =>
          simp [b2_t, b2_f, up_at, up_up, up_id]
          exact (hw2 _).up (by omega)
        | true =>
          have hb := qX3_bootBy (Q := Q) (n := n) (t := t) (g := g) (c := 4) (X := up X g (wr (sTake z (wr (X g) 2 0 2 (nI (m - 1)))) 4 0 6 (X g 4 0 6 + 1))) (by omega) (wm_boot0 (by simpa [b2_t, b2_f, up_at, up_up, up_id] using hw2 (X g 4 0 6 + 1)))
          simp [b2_t, b2_f, up_at, up_up, up_id, hb]
          exact wm_boots (wm_boot0 (hw2 _)) ⟨4, by omega, by omega, rfl⟩ (by omega)
theorem wm_tick1 {Q n t : Nat} {Y : pY} (h : wm Q n t Y) : wm Q n (t + 1) (sTick1 Y) := by
  unfold sTick1
  have ht : Y 0 0 9 + 1 = nI (t + 1) := by rw [h.tim, pu_succ]
  by_cases e : sResc Y = true
  all_goals
    simp only [e, if_true, Bool.false_eq_true, if_false]
    refine h.of (by simp [b2_t, b2_f, up_at, up_up, up_id, wr_rd]) (by simpa [b2_t, b2_f, up_at, up_up, up_id, wr_rd] using h.flo) (by simpa [b2_t, b2_f, up_at, up_up, up_id, wr_rd] using ht) (by simpa [b2_t, b2_f, up_at, up_up, up_id, wr_rd] using h.age.le (Nat.le_refl _) (Nat.le_succ _)) (by simpa [b2_t, b2_f, up_at, up_up, up_id, wr_rd] using h.tot) (by simp [b2_t, b2_f, up_at, up_up, up_id, wr_rd]) (fun q hq => by simpa [b2_t, b2_f, up_at, up_up, up_id, wS, wr_rd] using h.sl q hq) (by simp [b2_t, b2_f, up_at, up_up, up_id, wr_rd]) (fun q h1 h2 => by simpa [b2_t, b2_f, up_at, up_up, up_id, wr_rd] using (h.hi q h1 h2).2) (by simp [b2_t, b2_f, up_at, up_up, up_id, wr_rd]) (Nat.le_succ _)
theorem sTick1_age {Y : pY} : sTick1 Y 0 0 12 = Y 0 0 12 := by
  unfold sTick1; split <;> simp [b2_t, b2_f, up_at, up_up, up_id, wr_rd]
theorem qX3_tick {g Q n t : Nat} {X : bsX} (hQ : Q + 2 < 1000000) (h : wm Q n t (X g)) : fX3_passTick g X = some (up X g (sTick (X g))) ∧ wm (Q + 2) n (t + 1) (sTick (X g)) := by
  have h6 := h.hn
  have h1 := wm_tick1 h
  have e1 : fX3_passTick g X = fX3_passTick_20 g (if sResc (X g) then bsWr X g 4 0 5 (X g 4 0 5 + 1) else X) := by
    unfold fX3_passTick
    rw [qX3_resc]
    cases sResc (X g) <;> simp [b2_t, b2_f, up_at, up_up, up_id]
  have e2 : bsWr (if sResc (X g) then bsWr X g 4 0 5 (X g 4 0 5 + 1) else X) g 0 0 9 ((if sResc (X g) then bsWr X g 4 0 5 (X g 4 0 5 + 1) else X) g 0 0 9 + 1) = up X g (sTick1 (X g)) := by
    unfold sTick1
    cases sResc (X g) <;> simp [b2_t, b2_f, up_at, up_up, up_id, up_wr, wr_rd]
  have key : ∀ W : bsX, wm (Q + 1) n (t + 1) (W g) → fX3_passTick_71 g W = some (up W g (sTick2 (W g))) ∧ wm (Q + 2) n (t + 1) (sTick2 (W g)) := fun W hW => qX3_tick2 (Q := Q + 1) (by omega) hW
  rw [e1]
  unfold fX3_passTick_20
  rw [e2]
  simp only [up_at]
  unfold sTick sTickR
  rcases h1.hrun with ⟨e, er⟩ | ⟨r, hr, e, er, hon, hp⟩
  · have hm : (-1 : Int32) < 0 := by decide
    simp only [e, er, hm, if_true]
    have := key (up X g (sTick1 (X g))) (by simpa [b2_t, b2_f, up_at, up_up, up_id] using h1.up (Nat.le_succ _))
    simpa [b2_t, b2_f, up_at, up_up, up_id] using this
  · have hr6 : r < 6 := by omega
    have ha : rng (sTick1 (X g) 0 0 12) 0 t := by rw [sTick1_age]; exact h.age
    have ho := wm_older h1 ha hr hp
    simp only [e, er, pu_lt0 hr6, pu_le6 hr6, if_false, pu_inT hr6 (by decide), if_true, pu_ix6 hr6, qX3_older, Option.bind_some, up_at, up_up]
    split
    · have := key (up X g (sOlder r (sTick1 (X g))).2) (by simpa [b2_t, b2_f, up_at, up_up, up_id] using ho.up (Nat.le_succ _))
      simpa [b2_t, b2_f, up_at, up_up, up_id] using this
    · rename_i hc
      have hc2 : rng (sOlder r (sTick1 (X g))).1 0 4 := by rcases sOlder_c (k := r) (Y := sTick1 (X g)) with q | q; exact absurd q hc; exact q
      have hb := qX3_bootBy (Q := Q) (n := n) (t := t + 1) (g := g) (c := (sOlder r (sTick1 (X g))).1) (X := up X g (sOlder r (sTick1 (X g))).2) (by omega) (wm_boot0 (by simpa [b2_t, b2_f, up_at, up_up, up_id] using ho))
      rw [hb]
      simp only [Option.bind_some, up_at, up_up]
      have := key (up X g (sBoots (sOlder r (sTick1 (X g))).1 (sOlder r (sTick1 (X g))).2).2) (by simpa [b2_t, b2_f, up_at, up_up, up_id] using wm_boots (wm_boot0 ho) hc2 (by omega))
      simpa [b2_t, b2_f, up_at, up_up, up_id] using this
