/-! an install comes -/
theorem wr_sw (Y : pY) {a b c a' b' c' : Nat} {v v' : Int32} (h : ¬ (a = a' ∧ b = b' ∧ c = c')) : wr (wr Y a b c v) a' b' c' v' = wr (wr Y a' b' c' v') a b c v := by
  funext x y z
  simp only [wr_rd]
  by_cases e1 : x = a' ∧ y = b' ∧ z = c'
  · rw [if_pos e1]
    rw [if_neg (by omega), if_pos e1]
  · rw [if_neg e1, if_neg e1]
theorem wr_id (Y : pY) {a b c : Nat} {v : Int32} (h : Y a b c = v) : wr Y a b c v = Y := by
  funext x y z
  rw [wr_rd]
  split
  · rename_i e; rw [e.1, e.2.1, e.2.2]; exact h.symm
  · rfl
theorem bsMax_nI {a b : Nat} (ha : a < 2147483648) (hb : b < 2147483648) : bsMax (nI a) (nI b) = nI (max a b) := by
  unfold bsMax
  by_cases c : a < b
  · rw [if_pos ((pu_lt a b hb ha).mpr c), Nat.max_eq_right (by omega)]
  · rw [if_neg (fun z => c ((pu_lt a b hb ha).mp z)), Nat.max_eq_left (by omega)]
/-- the greatest priority but z's -/
def grt (p : Nat → Nat) (z : Nat) : Nat → Nat
  | 0 => 0
  | k + 1 => if k = z then grt p z k else max (grt p z k) (p k)
theorem grt_le (p : Nat → Nat) (z : Nat) : ∀ N k, k < N → k ≠ z → p k ≤ grt p z N := by
  intro N
  induction N with
  | zero => intro k h; omega
  | succ N ih =>
    intro k h hz
    rw [grt]
    by_cases e : k = N
    · subst e; rw [if_neg hz]; exact Nat.le_max_right _ _
    · have := ih k (by omega) hz
      split
      · exact this
      · exact Nat.le_trans this (Nat.le_max_left _ _)
theorem grt_at (p : Nat → Nat) (z : Nat) : ∀ N, grt p z N = 0 ∨ ∃ k, k < N ∧ k ≠ z ∧ p k = grt p z N := by
  intro N
  induction N with
  | zero => exact Or.inl rfl
  | succ N ih =>
    rw [grt]
    by_cases e : N = z
    · rw [if_pos e]
      rcases ih with h | ⟨k, h1, h2, h3⟩
      · exact Or.inl h
      · exact Or.inr ⟨k, by omega, h2, h3⟩
    · rw [if_neg e]
      by_cases c : grt p z N ≤ p N
      · exact Or.inr ⟨N, by omega, e, by rw [Nat.max_eq_right c]⟩
      · rcases ih with h | ⟨k, h1, h2, h3⟩
        · omega
        · exact Or.inr ⟨k, by omega, h2, by rw [Nat.max_eq_left (by omega)]; exact h3⟩
theorem grt_itF {p : Nat → Nat} {z : Nat} {Y : pY} (hz : z < 6) : ∀ N, N ≤ 6 → (∀ k, k < N → Y 5 k 2 = nI (p k) ∧ p k ≤ 15) → itF (sGreatF (nI z) Y) N 0 0 = nI (grt p z N) ∧ grt p z N ≤ 15 := by
  intro N
  induction N with
  | zero => intro _ _; exact ⟨rfl, by show (0 : Nat) ≤ 15; omega⟩
  | succ N ih =>
    intro hN hp
    obtain ⟨h1, h2⟩ := ih (by omega) (fun k hk => hp k (by omega))
    obtain ⟨h3, h4⟩ := hp N (by omega)
    have c := pu_eq N z (by omega) (by omega)
    rw [itF_app N 1 0 0, h1, Nat.zero_add, itF, itF, grt]
    unfold sGreatF
    by_cases e : N = z
    · rw [if_pos (c.mpr e), if_pos e]; exact ⟨rfl, h2⟩
    · rw [if_neg (fun q => e (c.mp q)), if_neg e, h3, bsMax_nI (by omega) (by omega)]
      exact ⟨rfl, Nat.max_le.mpr ⟨h2, h4⟩⟩
theorem sRoom_slot {a : Int32} {Y : pY} {k : Nat} (hk : k < 6) (h : 15 ≤ sGreat a Y) : sRoom a Y 5 k 2 = if nI k ≠ a ∧ 1 < Y 5 k 2 then Y 5 k 2 - 1 else Y 5 k 2 := by
  unfold sRoom
  rw [if_pos h]
  have key : ∀ (d q : Nat) (W : pY), q + d = 6 → itF (sRoomF a) d q W 5 k 2 = if q ≤ k then (if nI k ≠ a ∧ 1 < W 5 k 2 then W 5 k 2 - 1 else W 5 k 2) else W 5 k 2 := by
    intro d
    induction d with
    | zero => intro q W hq; rw [itF, if_neg (by omega)]
    | succ d ih =>
      intro q W hq
      rw [itF, ih (q + 1) _ (by omega)]
      by_cases e : q = k
      · subst e
        rw [if_neg (by omega), if_pos (Nat.le_refl _)]
        unfold sRoomF
        split
        · rw [wr_s]
        · rfl
      · have e1 : sRoomF a q W 5 k 2 = W 5 k 2 := by
          unfold sRoomF
          split
          · rw [wr_y _ _ _ _ _ (by omega)]
          · rfl
        rw [e1]
        by_cases c : q ≤ k
        · rw [if_pos (by omega), if_pos c]
        · rw [if_neg (by omega), if_neg c]
  rw [key 6 0 Y rfl, if_pos (Nat.zero_le _)]
/-- what the greatest is, and what it becomes when room is made -/
theorem great_room {Q n t z : Nat} {Y : pY} (hs : ∀ k, k < 6 → wS Y k) (hz : z < 6) : ∃ M, M ≤ 15 ∧ sGreat (nI z) Y = nI M ∧ sGreat (nI z) (sRoom (nI z) Y) + 1 = nI (if M = 15 then 15 else M + 1) := by
  have hp : ∀ k, k < 6 → Y 5 k 2 = nI (bsIx (Y 5 k 2)) ∧ bsIx (Y 5 k 2) ≤ 15 := by
    intro k hk
    obtain ⟨v, _, hv, e⟩ := (hs k hk).2.2.2.2.1
    rw [e, pu_ix v (by omega)]
    exact ⟨rfl, hv⟩
  obtain ⟨g1, g2⟩ := grt_itF (p := fun k => bsIx (Y 5 k 2)) hz 6 (Nat.le_refl _) hp
  have g0 : sGreat (nI z) Y = nI (grt (fun k => bsIx (Y 5 k 2)) z 6) := g1
  refine ⟨_, g2, g0, ?_⟩
  generalize hM : grt (fun k => bsIx (Y 5 k 2)) z 6 = M at *
  by_cases e : M = 15
  · rw [if_pos e]
    have h15 : 15 ≤ sGreat (nI z) Y := by rw [g0, e]; decide
    have hp1 : ∀ k, k < 6 → sRoom (nI z) Y 5 k 2 = nI (if k ≠ z ∧ 1 < bsIx (Y 5 k 2) then bsIx (Y 5 k 2) - 1 else bsIx (Y 5 k 2)) ∧ (if k ≠ z ∧ 1 < bsIx (Y 5 k 2) then bsIx (Y 5 k 2) - 1 else bsIx (Y 5 k 2)) ≤ 15 := by
      intro k hk
      obtain ⟨a1, a2⟩ := hp k hk
      rw [sRoom_slot hk h15]
      generalize bsIx (Y 5 k 2) = v at *
      have c1 := pu_eq k z (by omega) (by omega)
      have c2 : (1 : Int32) < nI v ↔ 1 < v := pu_lt 1 v (by omega) (by omega)
      rw [a1]
      by_cases q : k ≠ z ∧ 1 < v
      · rw [if_pos ⟨fun w => q.1 (c1.mp w), c2.mpr q.2⟩, if_pos q, show (1 : Int32) = nI 1 from rfl, pu_sub v 1 (by omega)]
        exact ⟨rfl, by omega⟩
      · rw [if_neg (fun w => q ⟨fun u => w.1 (c1.mpr u), c2.mp w.2⟩), if_neg q]
        exact ⟨rfl, a2⟩
    obtain ⟨r1, r2⟩ := grt_itF (Y := sRoom (nI z) Y) (p := fun k => if k ≠ z ∧ 1 < bsIx (Y 5 k 2) then bsIx (Y 5 k 2) - 1 else bsIx (Y 5 k 2)) hz 6 (Nat.le_refl _) hp1
    have r0 : sGreat (nI z) (sRoom (nI z) Y) = nI (grt (fun k => if k ≠ z ∧ 1 < bsIx (Y 5 k 2) then bsIx (Y 5 k 2) - 1 else bsIx (Y 5 k 2)) z 6) := r1
    rw [r0, pu_succ]
    congr 1
    have l1 := grt_at (fun k => bsIx (Y 5 k 2)) z 6
    rw [hM] at l1
    rcases l1 with l1 | ⟨k0, k1, k2, k3⟩
    · omega
    · have l2 := grt_le (fun k => if k ≠ z ∧ 1 < bsIx (Y 5 k 2) then bsIx (Y 5 k 2) - 1 else bsIx (Y 5 k 2)) z 6 k0 k1 k2
      have l3 := grt_at (fun k => if k ≠ z ∧ 1 < bsIx (Y 5 k 2) then bsIx (Y 5 k 2) - 1 else bsIx (Y 5 k 2)) z 6
      rw [k3, if_pos ⟨k2, by omega⟩] at l2
      rcases l3 with l3 | ⟨k4, k5, k6, k7⟩
      · omega
      · have := (hp k4 k5).2
        split at k7 <;> omega
  · rw [if_neg e]
    have h15 : ¬ 15 ≤ sGreat (nI z) Y := by
      rw [g0, show (15 : Int32) = nI 15 from rfl, pu_le 15 M (by omega) (by omega)]; omega
    have : sRoom (nI z) Y = Y := by unfold sRoom; rw [if_neg h15]
    rw [this, g0, pu_succ]
theorem hq_most {n z : Nat} {X : bsX} {Y Z : pY} {tr : Int32} (h6 : n ≤ 6) (hs : ∀ k, k < 6 → wS Y k) (hi : ∀ k, n ≤ k → k < 6 → Y 6 k 0 = 0) (h : rl n Y Z) (hz : z < n) : hX11_comes (nI z) tr X Z = hX11_comes_52 8 (nI z) tr (sGreat (nI z) Y) 0 X Z := by
  have hl := h.pn h6
  have hp : ∀ k, k < 6 → rng (Y 5 k 2) 0 15 := fun k hk => (hs k hk).2.2.2.2.1
  have h0 : ∀ k, n ≤ k → k < 6 → Y 5 k 2 = 0 := fun k h1 h2 => ((hs k h2).2.2.2.2.2.2.2.2.2 (hi k h1 h2)).1
  have hb0 : ∀ b, rng b 0 15 → bsMax b 0 = b := by
    rintro b ⟨v, _, hv, rfl⟩
    rw [show (0 : Int32) = nI 0 from rfl, bsMax_nI (by omega) (by omega)]
    congr 1; omega
  have hst : ∀ k b, k < 6 → rng b 0 15 → rng (sGreatF (nI z) Y k b) 0 15 := by
    intro k b hk hb
    unfold sGreatF
    split
    · exact hb
    · obtain ⟨v, _, hv, rfl⟩ := hb
      obtain ⟨u, _, hu, e⟩ := hp k hk
      rw [e, bsMax_nI (by omega) (by omega)]
      exact ⟨_, Nat.zero_le _, Nat.max_le.mpr ⟨hv, hu⟩, rfl⟩
  have hcut : ∀ (d k : Nat) (b : Int32), k + d = 6 → n ≤ k → rng b 0 15 → itF (sGreatF (nI z) Y) d k b = b := by
    intro d
    induction d with
    | zero => intro k b _ _ _; rfl
    | succ d ih =>
      intro k b hk hn hb
      have e : sGreatF (nI z) Y k b = b := by
        unfold sGreatF
        split
        · rfl
        · rw [h0 k hn (by omega)]; exact hb0 b hb
      rw [itF, e]
      exact ih (k + 1) b (by omega) (by omega) hb
  have hrg : rng (itF (sGreatF (nI z) Y) n 0 0) 0 15 := itF_ind (N := n) (fun b => rng b 0 15) (fun k b hk hb => hst k b (by omega) hb) n 0 0 (by omega) (rng.z 15)
  have e6 : sGreat (nI z) Y = itF (sGreatF (nI z) Y) n 0 0 := by
    unfold sGreat
    rw [show (6 : Nat) = n + (6 - n) by omega, itF_app]
    exact hcut (6 - n) (0 + n) _ (by omega) (by omega) hrg
  rw [e6]
  unfold hX11_comes
  have key : ∀ (d k m : Nat) (b : Int32), k + d = n → d < m → rng b 0 15 → hX11_comes_6 m (nI z) tr b (nI k) X Z = hX11_comes_52 8 (nI z) tr (itF (sGreatF (nI z) Y) d k b) 0 X Z := by
    intro d
    induction d with
    | zero =>
      intro k m b hk hm hb
      obtain ⟨m, rfl⟩ : ∃ q, m = q + 1 := ⟨m - 1, by omega⟩
      obtain rfl : k = n := by omega
      rw [hX11_comes_6, hl, if_pos (pz_nn k)]
      rfl
    | succ d ih =>
      intro k m b hk hm hb
      obtain ⟨m, rfl⟩ : ∃ q, m = q + 1 := ⟨m - 1, by omega⟩
      have hkn : k < n := by omega
      rw [hX11_comes_6, hl, if_neg (pz_le hkn h6)]
      unfold hX11_comes_38
      rw [pu_succ, if_pos (pz_in hkn h6), pu_ix k (by omega), h.sl hkn (i := 2) (by omega) (by omega), itF]
      have e : (if nI k = nI z then b else bsMax b (Y 5 k 2)) = sGreatF (nI z) Y k b := rfl
      by_cases c : nI k = nI z
      · rw [if_pos c, hb0 b hb]
        rw [if_pos c] at e
        rw [← e]
        exact ih (k + 1) m b (by omega) (by omega) hb
      · rw [if_neg c]
        rw [if_neg c] at e
        rw [e]
        exact ih (k + 1) m _ (by omega) (by omega) (hst k b (by omega) hb)
  exact key n 0 8 0 (by omega) (by omega) (rng.z 15)
theorem hq_room {n z : Nat} {X : bsX} {tr : Int32} (h6 : n ≤ 6) (hz : z < n) : ∀ (d k m : Nat) (W Z : pY), k + d = n → d < m → rl n W Z → ∃ Z', hX11_comes_52 m (nI z) tr 15 (nI k) X Z = hX11_comes_111 (nI z) tr 15 X Z' ∧ rl n (itF (sRoomF (nI z)) d k W) Z' ∧ ∀ i, Z' 0 0 i = Z 0 0 i := by
  intro d
  induction d with
  | zero =>
    intro k m W Z hk hm h
    obtain ⟨m, rfl⟩ : ∃ q, m = q + 1 := ⟨m - 1, by omega⟩
    obtain rfl : k = n := by omega
    refine ⟨Z, ?_, h, fun _ => rfl⟩
    rw [hX11_comes_52, h.pn h6, if_pos (pz_nn k)]
  | succ d ih =>
    intro k m W Z hk hm h
    obtain ⟨m, rfl⟩ : ∃ q, m = q + 1 := ⟨m - 1, by omega⟩
    have hkn : k < n := by omega
    rw [hX11_comes_52, h.pn h6, if_neg (pz_le hkn h6), if_pos rfl]
    unfold hX11_comes_105
    rw [pu_succ, if_pos (pz_in hkn h6), pu_ix k (by omega), h.sl hkn (i := 2) (by omega) (by omega), itF]
    by_cases c : nI k = nI z
    · rw [if_pos c]
      have e : sRoomF (nI z) k W = W := by unfold sRoomF; rw [if_neg (fun q => q.1 c)]
      rw [e]
      exact ih (k + 1) m W Z (by omega) (by omega) h
    · rw [if_neg c]
      by_cases c2 : W 5 k 2 ≤ 1
      · rw [if_pos c2]
        have e : sRoomF (nI z) k W = W := by unfold sRoomF; rw [if_neg (fun q => pu_nlt.mpr c2 q.2)]
        rw [e]
        exact ih (k + 1) m W Z (by omega) (by omega) h
      · rw [if_neg c2]
        have e : sRoomF (nI z) k W = wr W 5 k 2 (W 5 k 2 - 1) := by unfold sRoomF; rw [if_pos ⟨c, pu_nle.mp c2⟩]
        rw [e]
        obtain ⟨Z', e1, e2, e3⟩ := ih (k + 1) m (wr W 5 k 2 (W 5 k 2 - 1)) (wr Z 5 k 2 (W 5 k 2 - 1)) (by omega) (by omega) (h.w5 k 2 _)
        exact ⟨Z', e1, e2, fun i => by rw [e3 i, wr_y _ _ _ _ _ (by omega)]⟩
theorem zEmp_rd {j : Nat} {Z : pY} {K k i : Nat} : zEmp j Z K k i = if K = 5 ∧ k = j ∧ i = 4 then 0 else if K = 5 ∧ k = j ∧ i = 5 then 0 else if K = 5 ∧ k = j ∧ i = 3 then 0 else if K = 5 ∧ k = j ∧ i = 2 then 0 else if K = 6 ∧ k = j ∧ i = 5 then 0 else if K = 6 ∧ k = j ∧ i = 4 then 0 else if K = 6 ∧ k = j ∧ i = 3 then 0 else if K = 6 ∧ k = j ∧ i = 2 then 0 else if K = 6 ∧ k = j ∧ i = 1 then -1 else Z K k i := rfl
theorem zImg_rd {j : Nat} {Z : pY} {K k i : Nat} : zImg j Z K k i = if K = 6 ∧ k = j ∧ i = 5 then Z 13 0 5 else if K = 6 ∧ k = j ∧ i = 4 then Z 13 0 4 else if K = 6 ∧ k = j ∧ i = 3 then Z 13 0 3 else if K = 6 ∧ k = j ∧ i = 2 then Z 13 0 2 else if K = 6 ∧ k = j ∧ i = 1 then Z 13 0 1 else Z K k i := rfl
theorem sTake_rd {z : Nat} {Y : pY} (hz : z < 6) {K j i : Nat} : sTake z Y K j i =
    if K = 6 ∧ j = 6 then (if i ≤ 5 then 0 else sRoom (nI z) Y K j i) else if K = 2 ∧ j = 0 ∧ 1 ≤ i ∧ i ≤ 3 then (if i = 1 then -1 else 0) else if K = 5 ∧ j = z ∧ 2 ≤ i ∧ i ≤ 5 then (if i = 2 then sGreat (nI z) (sRoom (nI z) Y) + 1 else if i = 3 then Y 2 0 3 else 0) else if K = 6 ∧ j = z ∧ i ≤ 5 then sRoom (nI z) Y 6 6 i else sRoom (nI z) Y K j i := by
  have g : sGreat (nI z) (sImg (sRoom (nI z) Y) z (sRoom (nI z) Y 6 6)) = sGreat (nI z) (sRoom (nI z) Y) := by
    have e : ∀ (W : pY) (j i : Nat) (v : Int32), sGreat (nI z) (wr W 6 j i v) = sGreat (nI z) W := by
      intro W j i v
      have : sGreatF (nI z) (wr W 6 j i v) = sGreatF (nI z) W := by
        funext k b
        unfold sGreatF
        rw [wr_y _ _ _ _ _ (by omega)]
      unfold sGreat
      rw [this]
    unfold sImg
    rw [e, e, e, e, e, e]
  have g2 : sImg (sRoom (nI z) Y) z (sRoom (nI z) Y 6 6) 2 0 3 = Y 2 0 3 := by
    unfold sImg
    rw [wr_y _ _ _ _ _ (by omega), wr_y _ _ _ _ _ (by omega), wr_y _ _ _ _ _ (by omega), wr_y _ _ _ _ _ (by omega), wr_y _ _ _ _ _ (by omega), wr_y _ _ _ _ _ (by omega)]
    exact sRoom_else (by omega)
  unfold sTake
  rw [g, g2]
  generalize sGreat (nI z) (sRoom (nI z) Y) + 1 = G
  generalize Y 2 0 3 = T3
  generalize sRoom (nI z) Y = V
  unfold sStop sImg
  simp only [wr_rd]
  by_cases a1 : K = 6 ∧ j = 6
  · obtain ⟨rfl, rfl⟩ := a1
    have hz6 : ¬ 6 = z := by omega
    by_cases a2 : i ≤ 5
    · have : i = 0 ∨ i = 1 ∨ i = 2 ∨ i = 3 ∨ i = 4 ∨ i = 5 := by omega
      rcases this with rfl | rfl | rfl | rfl | rfl | rfl <;> simp
    · have : ¬ i = 0 ∧ ¬ i = 1 ∧ ¬ i = 2 ∧ ¬ i = 3 ∧ ¬ i = 4 ∧ ¬ i = 5 := by omega
      simp [this, a2, hz6]
  · rw [if_neg a1]
    by_cases a2 : K = 2 ∧ j = 0 ∧ 1 ≤ i ∧ i ≤ 3
    · obtain ⟨rfl, rfl, b1, b2⟩ := a2
      have : i = 1 ∨ i = 2 ∨ i = 3 := by omega
      rcases this with rfl | rfl | rfl <;> simp
    · rw [if_neg a2]
      by_cases a3 : K = 5 ∧ j = z ∧ 2 ≤ i ∧ i ≤ 5
      · obtain ⟨rfl, rfl, b1, b2⟩ := a3
        have : i = 2 ∨ i = 3 ∨ i = 4 ∨ i = 5 := by omega
        rcases this with rfl | rfl | rfl | rfl <;> simp
      · rw [if_neg a3]
        by_cases a4 : K = 6 ∧ j = z ∧ i ≤ 5
        · obtain ⟨rfl, rfl, b1⟩ := a4
          have hz6 : ¬ j = 6 := by omega
          have : i = 0 ∨ i = 1 ∨ i = 2 ∨ i = 3 ∨ i = 4 ∨ i = 5 := by omega
          rcases this with rfl | rfl | rfl | rfl | rfl | rfl <;> simp [hz6]
        · rw [if_neg a4]
          repeat rw [if_neg (by omega)]
theorem hq_comes {n z : Nat} {X : bsX} {Y Z : pY} (h6 : n ≤ 6) (hs : ∀ k, k < 6 → wS Y k) (hi : ∀ k, n ≤ k → k < 6 → Y 6 k 0 = 0) (h : rl n Y Z) (hz : z < n) (hY1 : Y 2 0 1 = nI z) (hY3 : Y 2 0 3 = 3) (hY6 : Y 6 6 0 = 1) :
    ∃ Z', hX11_comes (nI z) 3 X Z = some (0, X, Z') ∧ rl n (sTake z Y) (wr Z' 2 0 1 (-1)) ∧ ∀ i, Z' 0 0 i = Z 0 0 i := by
  have hz6 : z < 6 := by omega
  obtain ⟨M, hM, g1, g2⟩ := great_room (Q := 0) (n := n) (t := 0) hs hz6
  rw [hq_most h6 hs hi h hz, g1]
  -- the end
  have fin : ∀ (mo : Int32) (Z1 : pY), rl n (sRoom (nI z) Y) Z1 → (if mo = 15 then (15 : Int32) else mo + 1) = sGreat (nI z) (sRoom (nI z) Y) + 1 → ∃ Z', hX11_comes_111 (nI z) 3 mo X Z1 = some (0, X, Z') ∧ rl n (sTake z Y) (wr Z' 2 0 1 (-1)) ∧ ∀ i, Z' 0 0 i = Z1 0 0 i := by
    intro mo Z1 h1 hmo
    refine ⟨wr (wr (zImg z (zEmp z Z1)) 5 z 2 (if mo = 15 then 15 else mo + 1)) 5 z 3 3, ?_, ?_, fun i => ?_⟩
    · unfold hX11_comes_111 hX11_comes_154
      rw [h1.pn h6, if_pos (pz_in hz h6), pu_ix z (by omega)]
      split <;> rfl
    · rw [hmo]
      have hne : ¬ Y 2 0 1 = -1 := by rw [hY1]; exact pu_m1 z (by omega)
      have r21 : sRoom (nI z) Y 2 0 1 = Y 2 0 1 := sRoom_else (by omega)
      obtain ⟨_, d2⟩ := h1.d.2 (by rw [r21]; exact hne)
      have rd : ∀ K j i, ¬ (K = 5 ∧ j = z) → ¬ (K = 6 ∧ j = z) → ¬ (K = 2 ∧ j = 0 ∧ i = 1) → wr (wr (wr (zImg z (zEmp z Z1)) 5 z 2 (sGreat (nI z) (sRoom (nI z) Y) + 1)) 5 z 3 3) 2 0 1 (-1) K j i = Z1 K j i := by
        intro K j i a b c
        rw [wr_y _ _ _ _ _ (by omega), wr_y _ _ _ _ _ (by omega), wr_y _ _ _ _ _ (by omega), zImg_no b, zEmp_no b a]
      have rt : ∀ K j i, ¬ (K = 6 ∧ j = 6) → ¬ (K = 2 ∧ j = 0) → ¬ (K = 5 ∧ j = z ∧ i ≤ 5) → ¬ (K = 6 ∧ j = z) → sTake z Y K j i = sRoom (nI z) Y K j i := by
        intro K j i a b c d
        rw [sTake_rd hz6, if_neg a, if_neg (by omega), if_neg (by omega), if_neg (by omega)]
      refine ⟨h1.a.of (fun i a b => rt 0 0 i (by omega) (by omega) (by omega) (by omega)) (fun i a b => rd 0 0 i (by omega) (by omega) (by omega)), ?_, ?_, ⟨?_, ?_⟩, h1.e.of (fun i a => rt 4 0 i (by omega) (by omega) (by omega) (by omega)) (fun i a b => rd 11 0 i (by omega) (by omega) (by omega)), h1.f.of (rt 3 0 4 (by omega) (by omega) (by omega) (by omega)) (fun K i a b => rt K 0 i (by omega) (by omega) (by omega) (by omega)) (rd 14 0 0 (by omega) (by omega) (by omega)) (rd 11 0 12 (by omega) (by omega) (by omega)) (fun j i a => rd 12 j i (by omega) (by omega) (by omega))⟩
      · intro k hk i a b
        by_cases e : k = z
        · subst e
          rw [sTake_rd hz6, if_neg (by omega), if_neg (by omega)]
          by_cases c : i ≤ 5
          · rw [if_pos ⟨rfl, rfl, a, c⟩]
            have : i = 2 ∨ i = 3 ∨ i = 4 ∨ i = 5 := by omega
            rcases this with rfl | rfl | rfl | rfl
            · rw [if_pos rfl, wr_y _ _ _ _ _ (by omega), wr_y _ _ _ _ _ (by omega), wr_s]
            · rw [if_neg (by omega), if_pos rfl, wr_y _ _ _ _ _ (by omega), wr_s, hY3]
            · rw [if_neg (by omega), if_neg (by omega), wr_y _ _ _ _ _ (by omega), wr_y _ _ _ _ _ (by omega), wr_y _ _ _ _ _ (by omega), zImg_no (by omega), zEmp_rd, if_pos ⟨rfl, rfl, rfl⟩]
            · rw [if_neg (by omega), if_neg (by omega), wr_y _ _ _ _ _ (by omega), wr_y _ _ _ _ _ (by omega), wr_y _ _ _ _ _ (by omega), zImg_no (by omega), zEmp_rd, if_neg (by omega), if_pos ⟨rfl, rfl, rfl⟩]
          · rw [if_neg (by omega), if_neg (by omega), wr_y _ _ _ _ _ (by omega), wr_y _ _ _ _ _ (by omega), wr_y _ _ _ _ _ (by omega), zImg_no (by omega), zEmp_rd]
            repeat rw [if_neg (by omega)]
            exact h1.sl hk a b
        · rw [rd 5 k i (by omega) (by omega) (by omega), rt 5 k i (by omega) (by omega) (by omega) (by omega)]
          exact h1.sl hk a b
      · intro k hk
        by_cases e : k = z
        · subst e
          right
          have r66 : ∀ i, sRoom (nI k) Y 6 6 i = Y 6 6 i := fun i => sRoom_else (by omega)
          refine ⟨?_, fun i a b => ?_⟩
          · rw [sTake_rd hz6, if_neg (by omega), if_neg (by omega), if_neg (by omega), if_pos ⟨rfl, rfl, by omega⟩, r66]; exact hY6
          · rw [sTake_rd hz6, if_neg (by omega), if_neg (by omega), if_neg (by omega), if_pos ⟨rfl, rfl, b⟩, wr_y _ _ _ _ _ (by omega), wr_y _ _ _ _ _ (by omega), wr_y _ _ _ _ _ (by omega), ← d2 i a b, zImg_rd]
            have z13 : ∀ q, zEmp k Z1 13 0 q = Z1 13 0 q := fun q => zEmp_no (by omega) (by omega)
            have : i = 1 ∨ i = 2 ∨ i = 3 ∨ i = 4 ∨ i = 5 := by omega
            rcases this with rfl | rfl | rfl | rfl | rfl <;> simp [z13]
        · have hz' := h1.c k hk
          rcases hz' with ⟨a, b⟩ | ⟨a, b⟩
          · left
            exact ⟨by rw [rt 6 k 0 (by omega) (by omega) (by omega) (by omega)]; exact a, by rw [rd 6 k 1 (by omega) (by omega) (by omega)]; exact b⟩
          · right
            exact ⟨by rw [rt 6 k 0 (by omega) (by omega) (by omega) (by omega)]; exact a, fun i c d => by rw [rd 6 k i (by omega) (by omega) (by omega), rt 6 k i (by omega) (by omega) (by omega) (by omega)]; exact b i c d⟩
      · rw [wr_s, sTake_rd hz6, if_neg (by omega), if_pos ⟨rfl, rfl, by omega, by omega⟩, if_pos rfl]
      · intro q
        rw [sTake_rd hz6, if_neg (by omega), if_pos ⟨rfl, rfl, by omega, by omega⟩, if_pos rfl] at q
        exact absurd rfl q
    · rw [wr_y _ _ _ _ _ (by omega), wr_y _ _ _ _ _ (by omega), zImg_no (by omega), zEmp_no (by omega) (by omega)]
  by_cases e : M = 15
  · subst e
    have h15 : 15 ≤ sGreat (nI z) Y := by rw [g1]; decide
    obtain ⟨Z1, e1, e2, e3⟩ := hq_room (X := X) (tr := 3) h6 hz n 0 8 Y Z (by omega) (by omega) h
    have hr : itF (sRoomF (nI z)) n 0 Y = sRoom (nI z) Y := by
      unfold sRoom
      rw [if_pos h15, show (6 : Nat) = n + (6 - n) by omega, itF_app]
      have key : ∀ (d k : Nat) (W : pY), k + d = 6 → n ≤ k → (∀ q, n ≤ q → q < 6 → W 5 q 2 = 0) → itF (sRoomF (nI z)) d k W = W := by
        intro d
        induction d with
        | zero => intro k W _ _ _; rfl
        | succ d ih =>
          intro k W hk hn hW
          have e : sRoomF (nI z) k W = W := by unfold sRoomF; rw [if_neg (fun q => by rw [hW k hn (by omega)] at q; exact absurd q.2 (by decide))]
          rw [itF, e]
          exact ih (k + 1) W (by omega) (by omega) hW
      refine (key (6 - n) (0 + n) _ (by omega) (by omega) ?_).symm
      intro q q1 q2
      have : ∀ (d k : Nat) (W : pY), k + d = n → itF (sRoomF (nI z)) d k W 5 q 2 = W 5 q 2 := by
        intro d
        induction d with
        | zero => intro k W _; rfl
        | succ d ih =>
          intro k W hk
          rw [itF, ih (k + 1) _ (by omega)]
          unfold sRoomF
          split
          · rw [wr_y _ _ _ _ _ (by omega)]
          · rfl
      rw [this n 0 Y (by omega)]
      exact ((hs q q2).2.2.2.2.2.2.2.2.2 (hi q q1 q2)).1
    rw [hr] at e2
    obtain ⟨Z', f1, f2, f3⟩ := fin 15 Z1 e2 (by rw [if_pos rfl, g2, if_pos rfl]; rfl)
    exact ⟨Z', by rw [show nI 15 = (15 : Int32) from rfl, show (0 : Int32) = nI 0 from rfl, e1]; exact f1, f2, fun i => by rw [f3, e3]⟩
  · have h15 : ¬ 15 ≤ sGreat (nI z) Y := by rw [g1, show (15 : Int32) = nI 15 from rfl, pu_le 15 M (by omega) (by omega)]; omega
    have hr : sRoom (nI z) Y = Y := by unfold sRoom; rw [if_neg h15]
    have hM15 : ¬ nI M = 15 := fun q => e ((pu_eq M 15 (by omega) (by omega)).mp q)
    obtain ⟨Z', f1, f2, f3⟩ := fin (nI M) Z (by rw [hr]; exact h) (by rw [if_neg hM15, g2, if_neg e, pu_succ])
    refine ⟨Z', ?_, f2, f3⟩
    rw [show (8 : Nat) = 7 + 1 from rfl, hX11_comes_52, h.pn h6]
    by_cases c : nI n ≤ 0
    · rw [if_pos c]; exact f1
    · rw [if_neg c, if_neg hM15]; exact f1
