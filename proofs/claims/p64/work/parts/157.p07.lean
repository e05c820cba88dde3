theorem wm_older {Q n t k : Nat} {Y : pY} (h : wm Q n (t + 1) (Y)) (ha : rng (Y 0 0 12) 0 t) (hk : k < n) (hp : Y 6 k 0 ≠ 0) : wm Q n (t + 1) (sOlder k Y).2 := by
  have h6 := h.hn
  have h1 : wm Q n (t + 1) (wr Y 0 0 12 (Y 0 0 12 + 1)) := by
    refine h.of (by simp [b2_t, b2_f, up_at, up_up, up_id, wr_rd]) (by simpa [b2_t, b2_f, up_at, up_up, up_id, wr_rd] using h.flo) (by simpa [b2_t, b2_f, up_at, up_up, up_id, wr_rd] using h.tim) ?_ (by simpa [b2_t, b2_f, up_at, up_up, up_id, wr_rd] using h.tot) (by simp [b2_t, b2_f, up_at, up_up, up_id, wr_rd]) (fun q hq => by simpa [b2_t, b2_f, up_at, up_up, up_id, wS, wr_rd] using h.sl q hq) (by simp [b2_t, b2_f, up_at, up_up, up_id, wr_rd]) (fun q h1 h2 => by simpa [b2_t, b2_f, up_at, up_up, up_id, wr_rd] using (h.hi q h1 h2).2) (by simp [b2_t, b2_f, up_at, up_up, up_id, wr_rd]) (Nat.le_refl _)
    obtain ⟨a, a1, a2, a3⟩ := ha
    simp only [wr_rd]
    exact ⟨a + 1, by omega, by omega, by simp [b2_t, b2_f, up_at, up_up, up_id, a3, pu_succ]⟩
  unfold sOlder
  dsimp only
  split
  · exact wm_crash h1 hk (by intro _; simpa [b2_t, b2_f, up_at, up_up, up_id, wr_rd] using hp) (by simpa [b2_t, b2_f, up_at, up_up, up_id, wr_rd] using hp)
  · split
    · exact wm_succ h1 hk (by simpa [b2_t, b2_f, up_at, up_up, up_id, wr_rd] using hp)
    · split
      · refine h1.of (by simp [b2_t, b2_f, up_at, up_up, up_id, wr_rd]) (by simpa [b2_t, b2_f, up_at, up_up, up_id, wr_rd] using h.flo) (by simpa [b2_t, b2_f, up_at, up_up, up_id, wr_rd] using h.tim) (by simpa [b2_t, b2_f, up_at, up_up, up_id, wr_rd] using h1.age) (by simpa [b2_t, b2_f, up_at, up_up, up_id, wr_rd] using h.tot) (by simp [b2_t, b2_f, up_at, up_up, up_id, wr_rd]) (fun q hq => by simpa [b2_t, b2_f, up_at, up_up, up_id, wS, wr_rd] using h.sl q hq) (by simp [b2_t, b2_f, up_at, up_up, up_id, wr_rd]) (fun q h1 h2 => by simpa [b2_t, b2_f, up_at, up_up, up_id, wr_rd] using (h.hi q h1 h2).2) (by simp [b2_t, b2_f, up_at, up_up, up_id, wr_rd]) (Nat.le_refl _)
      · exact h1
theorem sOlder_c {k : Nat} {Y : pY} : (sOlder k Y).1 = -1 ∨ rng (sOlder k Y).1 0 4 := by
  unfold sOlder
  dsimp only
  split
  · right; exact ⟨2, by omega, by omega, rfl⟩
  · split
    · left; rfl
    · split
      · right; exact ⟨3, by omega, by omega, rfl⟩
      · left; rfl
/-! THE INSTALL -/
def sGreatF (a : Int32) (Y : pY) (k : Nat) (b : Int32) : Int32 := if nI k = a then b else bsMax b (Y 5 k 2)
def sGreat (a : Int32) (Y : pY) : Int32 := itF (sGreatF a Y) 6 0 0
theorem qX3_great (g : Nat) (a : Int32) (X : bsX) : fX3_greatestPriorityBut g a X = some (sGreat a (X g), X) := by
  refine (pu_loop (N := 6) (fun n k b => fX3_greatestPriorityBut_4 g n a b (nI k) X) (sGreatF a (X g)) (fun b => (b, X)) (fun _ _ => True) ?_ ?_ 6 0 bsF 0 rfl (by decide) trivial).1
  · intro n k b hk _
    refine ⟨?_, trivial⟩
    simp only [fX3_greatestPriorityBut_4, fX3_greatestPriorityBut_29, pu_le6 hk, pu_inT hk (by decide), pu_ix6 hk, pu_succ, if_false, if_true, sGreatF]
    by_cases h : nI k = a <;> simp [b2_t, b2_f, up_at, up_up, up_id, h]
  · intro n b _
    simp only [fX3_greatestPriorityBut_4, pu_66, if_true]
theorem rng_great {a : Int32} {Y : pY} (h : ∀ k, k < 6 → rng (Y 5 k 2) 0 15) : rng (sGreat a Y) 0 15 := by
  refine itF_ind (N := 6) (f := sGreatF a Y) (fun b => rng b 0 15) ?_ 6 0 _ rfl (rng.z 15)
  intro k b hk hb
  unfold sGreatF
  split
  · exact hb
  · exact rng_max (by decide) hb (h k hk)
def sRoomF (a : Int32) (k : Nat) (Y : pY) : pY := if nI k ≠ a ∧ 1 < Y 5 k 2 then wr Y 5 k 2 (Y 5 k 2 - 1) else Y
def sRoom (a : Int32) (Y : pY) : pY := if 15 ≤ sGreat a Y then itF (sRoomF a) 6 0 Y else Y
theorem qX3_room (g : Nat) (a : Int32) (X : bsX) : fX3_makeRoomAbove g a X = some (up X g (sRoom a (X g))) := by
  unfold fX3_makeRoomAbove sRoom
  rw [qX3_great]
  simp only [Option.bind_some]
  split
  · have := (pu_loop (N := 6) (fun n k (Y : pY) => fX3_makeRoomAbove_13 g n a (nI k) (up X g Y)) (sRoomF a) (fun Y => up X g Y) (fun _ _ => True) ?_ ?_ 6 0 bsF (X g) rfl (by decide) trivial).1
    · simp only [up_id] at this; exact this
    · intro n k Y hk _
      refine ⟨?_, trivial⟩
      simp only [fX3_makeRoomAbove_13, fX3_makeRoomAbove_52, pu_le6 hk, pu_inT hk (by decide), pu_ix6 hk, pu_succ, if_false, if_true, sRoomF, up_at, up_wr, up_up]
      by_cases h : nI k = a <;> by_cases h2 : Y 5 k 2 ≤ 1
      · simp [b2_t, b2_f, up_at, up_up, up_id, h]
      · simp [b2_t, b2_f, up_at, up_up, up_id, h]
      · have := pu_nlt.mpr h2; simp [b2_t, b2_f, up_at, up_up, up_id, h, h2, this]
      · have := pu_nle.mp h2; simp [b2_t, b2_f, up_at, up_up, up_id, h, h2, this]
    · intro n b _
      simp only [fX3_makeRoomAbove_13, pu_66, if_true]
  · simp [b2_t, b2_f, up_at, up_up, up_id]
def sImg (Y : pY) (j : Nat) (f : Nat → Int32) : pY := wr (wr (wr (wr (wr (wr Y 6 j 0 (f 0)) 6 j 1 (f 1)) 6 j 2 (f 2)) 6 j 3 (f 3)) 6 j 4 (f 4)) 6 j 5 (f 5)
theorem qX1_copy {g j g2 j2 : Nat} {X : bsX} (hne : g ≠ g2 ∨ j ≠ j2) (h0 : is01 (X g2 6 j2 0)) (h4 : is01 (X g2 6 j2 4)) (h5 : is01 (X g2 6 j2 5)) : fX1_copyFrom g j g2 j2 X = some (up X g (sImg (X g) j (X g2 6 j2))) := by
  unfold is01 at h0 h4 h5
  unfold fX1_copyFrom sImg
  by_cases hg : g = g2
  · subst hg
    have hj : j2 ≠ j := fun e => by rcases hne with q | q; exact q rfl; exact q e.symm
    simp only [up_wr, up_at, up_up, wr_rd, hj, and_false, false_and, if_false, h0, h4, h5, if_true]
  · have hg' : g2 ≠ g := fun e => hg e.symm
    simp only [up_wr, up_at, up_up, wr_rd, up_ne _ _ hg', h0, h4, h5, if_true]
def sStop (Y : pY) : pY := wr (sImg (wr (wr (wr Y 2 0 1 (-1)) 2 0 2 0) 2 0 3 0) 6 (fun i => if i = 0 then 1 else 0)) 6 6 0 0
theorem qX2_stop (g : Nat) (X : bsX) : fX2_stop g X = some (up X g (sStop (X g))) := by
  unfold fX2_stop fX1_remove fX1_set sStop sImg
  simp [b2_t, b2_f, up_at, up_up, up_id, up_wr]
/-- the install comes into slot z -/
def sTake (z : Nat) (Y : pY) : pY :=
  let Y1 := sImg (sRoom (nI z) Y) z (sRoom (nI z) Y 6 6)
  sStop (wr (wr (wr (wr Y1 5 z 2 (sGreat (nI z) Y1 + 1)) 5 z 3 (Y1 2 0 3)) 5 z 4 0) 5 z 5 0)
theorem sRoom_else {a : Int32} {Y : pY} {K j i : Nat} (h : K ≠ 5 ∨ i ≠ 2) : sRoom a Y K j i = Y K j i := by
  unfold sRoom
  split
  · refine itF_ind (N := 6) (f := sRoomF a) (fun Z => Z K j i = Y K j i) ?_ 6 0 Y rfl rfl
    intro k Z _ hZ
    unfold sRoomF
    split
    · rw [wr_rd, if_neg (by omega)]; exact hZ
    · exact hZ
  · rfl
theorem qX3_take {g z : Nat} {X : bsX} (hz : z < 6) (ht : X g 2 0 1 = nI z) (h0 : is01 (X g 6 6 0)) (h4 : is01 (X g 6 6 4)) (h5 : is01 (X g 6 6 5)) : fX3_takeInstall g X = some (up X g (sTake z (X g))) := by
  have e : ∀ K j i, (K ≠ 5 ∨ i ≠ 2) → sRoom (nI z) (X g) K j i = X g K j i := fun K j i h => sRoom_else h
  have h1 := qX1_copy (g := g) (j := z) (g2 := g) (j2 := 6) (X := up X g (sRoom (nI z) (X g))) (Or.inr (by omega)) (by rw [up_at, e _ _ _ (by omega)]; exact h0) (by rw [up_at, e _ _ _ (by omega)]; exact h4) (by rw [up_at, e _ _ _ (by omega)]; exact h5)
  unfold fX3_takeInstall fX3_takeInstall_76
  simp only [ht, pu_lt0 hz, pu_le6 hz, if_false, qX3_room, Option.bind_some, pu_inT hz (by decide), if_true, pu_ix6 hz, h1, qX3_great, fX5_setMark, true_or, up_at, qX2_stop, up_wr, up_up, wr_rd]
  simp [b2_t, b2_f, up_at, up_up, up_id, sTake, wr_rd]
