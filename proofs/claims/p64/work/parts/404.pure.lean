/-! worth, choice, floorWith, count -/
def sW (Y : pY) (k : Nat) : Nat := ((2 * bsIx (Y 5 k 2) + (if Y 5 k 4 = 0 then 0 else 1)) * 100 + bsIx (Y 6 k 1)) * 10 + 9 - k
theorem hq_worth0 {Q n t k : Nat} {X : bsX} {Y Z : pY} (hw : wm Q n t Y) (h : rl n Y Z) (hk : k < n) : ∃ v, hX11_worth (nI k) X Z = some (v, X, Z) := by
  have hl := h.pn hw.hn
  unfold hX11_worth hX11_worth_25
  rw [hl, if_pos (pz_in hk hw.hn)]
  split
  · exact ⟨_, rfl⟩
  · exact ⟨_, rfl⟩
theorem hq_worth {Q n t k : Nat} {X : bsX} {Y Z : pY} (hw : wm Q n t Y) (h : rl n Y Z) (hk : k < n) (he : ¬ Y 6 k 0 = 0) : hX11_worth (nI k) X Z = some (nI (sW Y k), X, Z) := by
  have h6 := hw.hn
  have hl := h.pn h6
  have hs := hw.sl k (by omega)
  obtain ⟨p, _, hp, ep⟩ := hs.2.2.2.2.1
  obtain ⟨v, _, hv, ev⟩ := hs.2.2.2.2.2.2.1
  have key : ∀ g : Nat, (((((nI 2 * nI p) + nI g) * nI 100) + nI v) * nI 10 + nI 9) - nI k = nI (((2 * p + g) * 100 + v) * 10 + 9 - k) := by
    intro g
    rw [pu_mul, pu_add, pu_mul, pu_add, pu_mul, pu_add, pu_sub _ _ (by omega)]
  unfold hX11_worth hX11_worth_25
  rw [hl, if_pos (pz_in hk h6), pu_ix k (by omega), h.sl hk (i := 4) (by omega) (by omega), h.sl hk (i := 2) (by omega) (by omega), h.im hk he (i := 1) (by omega) (by omega), ep, ev]
  unfold sW
  rw [ep, ev, pu_ix p (by omega), pu_ix v (by omega)]
  by_cases g : Y 5 k 4 = 0
  · rw [if_pos g, if_pos g]
    exact congrArg (fun x => some (x, X, Z)) (key 0)
  · rw [if_neg g, if_neg g]
    exact congrArg (fun x => some (x, X, Z)) (key 1)
theorem sW_lt {Q n t k : Nat} {Y : pY} (hw : wm Q n t Y) (hk : k < 6) : sW Y k < 40000 := by
  have hs := hw.sl k hk
  obtain ⟨p, _, hp, ep⟩ := hs.2.2.2.2.1
  obtain ⟨v, _, hv, ev⟩ := hs.2.2.2.2.2.2.1
  unfold sW
  rw [ep, ev, pu_ix p (by omega), pu_ix v (by omega)]
  split <;> omega
theorem sW_ah {Q n t k q : Nat} {Y : pY} (hw : wm Q n t Y) (hk : k < 6) (hq : q < 6) : sW Y q < sW Y k ↔ sAhead Y k q = true := by
  have hs := hw.sl k hk
  have hz := hw.sl q hq
  obtain ⟨p, _, hp, ep⟩ := hs.2.2.2.2.1
  obtain ⟨v, _, hv, ev⟩ := hs.2.2.2.2.2.2.1
  obtain ⟨p', _, hp', ep'⟩ := hz.2.2.2.2.1
  obtain ⟨v', _, hv', ev'⟩ := hz.2.2.2.2.2.2.1
  have g1 : Y 5 k 4 = 0 ∨ Y 5 k 4 = 1 := hs.2.2.2.1
  have g2 : Y 5 q 4 = 0 ∨ Y 5 q 4 = 1 := hz.2.2.2.1
  have d01 : ¬ (0 : Int32) = 1 := by decide
  have d10 : ¬ (1 : Int32) = 0 := by decide
  unfold sW sAhead
  rw [ep, ev, ep', ev', pu_ix p (by omega), pu_ix v (by omega), pu_ix p' (by omega), pu_ix v' (by omega)]
  have c1 := pu_eq p p' (by omega) (by omega)
  have c2 := pu_eq v v' (by omega) (by omega)
  have c3 := pu_lt v' v (by omega) (by omega)
  have c4 := pu_lt p' p (by omega) (by omega)
  by_cases a1 : p = p'
  · rw [if_pos (c1.mpr a1)]
    rcases g1 with e1 | e1 <;> rcases g2 with e2 | e2 <;> rw [e1, e2]
    · rw [if_pos rfl, if_pos rfl]
      by_cases a2 : v = v'
      · rw [if_pos (c2.mpr a2), decide_eq_true_eq]; omega
      · rw [if_neg (fun z => a2 (c2.mp z)), decide_eq_true_eq, c3]; omega
    · rw [if_pos rfl, if_neg d10, if_neg d01, decide_eq_true_eq]
      exact ⟨fun z => absurd z (by omega), fun z => absurd rfl z⟩
    · rw [if_neg d10, if_pos rfl, if_neg d10, decide_eq_true_eq]
      exact ⟨fun _ => d10, fun _ => by omega⟩
    · rw [if_neg d10, if_pos rfl]
      by_cases a2 : v = v'
      · rw [if_pos (c2.mpr a2), decide_eq_true_eq]; omega
      · rw [if_neg (fun z => a2 (c2.mp z)), decide_eq_true_eq, c3]; omega
  · rw [if_neg (fun z => a1 (c1.mp z)), decide_eq_true_eq, c4]
    rcases g1 with e1 | e1 <;> rcases g2 with e2 | e2 <;> rw [e1, e2]
    · rw [if_pos rfl]; omega
    · rw [if_pos rfl, if_neg d10]; omega
    · rw [if_pos rfl, if_neg d10]; omega
    · rw [if_neg d10]; omega
/-- choice -/
theorem hq_choice {Q n t : Nat} {w : Int32} {X : bsX} {Y Z : pY} (hw : wm Q n t Y) (h : rl n Y Z) : hX11_choice w X Z = some (oI (sFirstBut w Y), X, Z) := by
  have h6 := hw.hn
  have hl := h.pn h6
  unfold hX11_choice sFirstBut
  rw [itF_6 h6 (fun k a h1 h2 => by unfold sFb; rw [show sBoot Y k = false from hw.nb h1 h2]; simp) none]
  refine (pu_loop (N := n) (fun m k b => hX11_choice_4 m w (oI b) (nI k) X Z) (sFb w Y) (fun b => (oI b, X, Z)) (fun _ b => ∀ q, b = some q → q < n ∧ ¬ Y 6 q 0 = 0) ?_ ?_ n 0 8 none (by omega) (by omega) (by intro q e; cases e)).1
  · intro m k b hk hb
    have hk6 : k < 6 := by omega
    have hbt := hq_boot0 (t := t) (Q := Q) hw hk6
    refine ⟨?_, ?_⟩
    · show hX11_choice_4 (m + 1) w (oI b) (nI k) X Z = hX11_choice_4 m w (oI (sFb w Y k b)) (nI (k + 1)) X Z
      rw [hX11_choice_4, hl, if_neg (pz_le hk h6)]
      unfold hX11_choice_43 hX11_choice_45
      rw [pu_succ]
      by_cases e : nI k = w
      · rw [if_pos e]
        have : sFb w Y k b = b := by unfold sFb; rw [if_neg]; simp [e]
        rw [this]
      · rw [if_neg e, hq_why hw h hk]
        simp only [Option.bind_some]
        by_cases e2 : sWhy Y k = 0
        · have hB := hbt.mp e2
          have hne : ¬ Y 6 k 0 = 0 := by
            intro z
            unfold sWhy at e2
            rw [if_pos z] at e2
            exact absurd e2 (by decide)
          rw [if_pos e2]
          cases b with
          | none =>
            rw [if_pos (show oI none < 0 by decide)]
            have : sFb w Y k none = some k := by unfold sFb; rw [if_pos]; simp [e, hB, sPref]
            rw [this]
            rfl
          | some q =>
            obtain ⟨hq, hqe⟩ := hb q rfl
            rw [if_neg (show ¬ oI (some q) < 0 from pu_neg q (by omega)), hq_worth hw h hk hne]
            simp only [Option.bind_some]
            rw [show oI (some q) = nI q from rfl, hq_worth hw h hq hqe]
            simp only [Option.bind_some]
            have c1 := pu_le (sW Y k) (sW Y q) (by have := sW_lt (Q := Q) hw (show q < 6 by omega); omega) (by have := sW_lt (Q := Q) hw hk6; omega)
            have c2 := sW_ah (Q := Q) hw hk6 (show q < 6 by omega)
            by_cases e3 : nI (sW Y k) ≤ nI (sW Y q)
            · rw [if_pos e3]
              have : sFb w Y k (some q) = some q := by
                unfold sFb; rw [if_neg]
                have : ¬ sAhead Y k q = true := fun z => by have := c2.mpr z; have := c1.mp e3; omega
                simp [sPref, this]
              rw [this]
              rfl
            · rw [if_neg e3]
              have : sFb w Y k (some q) = some k := by
                unfold sFb; rw [if_pos]
                have : sAhead Y k q = true := c2.mp (by have : ¬ sW Y k ≤ sW Y q := fun z => e3 (c1.mpr z); omega)
                simp [e, hB, sPref, this]
              rw [this]
              rfl
        · rw [if_neg e2]
          have hB : ¬ sBoot Y k = true := fun z => e2 (hbt.mpr z)
          have : sFb w Y k b = b := by unfold sFb; rw [if_neg]; simp [hB]
          rw [this]
    · intro q hq
      unfold sFb at hq
      by_cases hc : (decide (nI k ≠ w) && sBoot Y k && sPref Y k b) = true
      · rw [if_pos hc] at hq
        injection hq with hq
        subst hq
        refine ⟨hk, fun z => ?_⟩
        simp only [Bool.and_eq_true] at hc
        have := hbt.mpr hc.1.2
        unfold sWhy at this
        rw [if_pos z] at this
        exact absurd this (by decide)
      · rw [if_neg hc] at hq; exact hb q hq
  · intro m b hb
    show hX11_choice_4 (m + 1) w (oI b) (nI n) X Z = _
    rw [hX11_choice_4, hl, if_pos (pz_nn n)]
/-- floorWith -/
def hFl (a : Nat) (Z : pY) (k : Nat) (L : Int32) : Int32 := if Z 5 k 4 = 0 then (if k = a then bsMin L (Z 6 k 1) else L) else bsMin L (Z 6 k 1)
theorem hq_fl0 {n a : Nat} {X : bsX} {Y Z : pY} (h6 : n ≤ 6) (sl : ∀ k, k < 6 → wS Y k) (h : rl n Y Z) (ha : a < n) : hX11_floorWith (nI a) X Z = some (if Y 6 a 0 = 0 then Y 0 0 8 else bsMax (Y 0 0 8) (itF (hFl a Z) n 0 100), X, Z) := by
  have hl := h.pn h6
  unfold hX11_floorWith
  refine (pu_loop (N := n) (fun m k b => hX11_floorWith_5 m (nI a) b (nI k) X Z) (hFl a Z) (fun b => (if Y 6 a 0 = 0 then Y 0 0 8 else bsMax (Y 0 0 8) b, X, Z)) (fun _ _ => True) ?_ ?_ n 0 8 100 (by omega) (by omega) trivial).1
  · intro m k b hk _
    refine ⟨?_, trivial⟩
    show hX11_floorWith_5 (m + 1) (nI a) b (nI k) X Z = hX11_floorWith_5 m (nI a) (hFl a Z k b) (nI (k + 1)) X Z
    rw [hX11_floorWith_5, hl, if_neg (pz_le hk h6), if_pos (pz_in hk h6)]
    unfold hX11_floorWith_31 hX11_floorWith_47 hFl
    rw [pu_succ, hl, if_pos (pz_in hk h6), pu_ix k (by omega)]
    have c := pu_eq k a (by omega) (by omega)
    by_cases e1 : Z 5 k 4 = 0
    · rw [if_pos e1, if_pos e1]
      by_cases e2 : k = a
      · rw [if_pos (c.mpr e2), if_pos e2]
      · rw [if_neg (fun z => e2 (c.mp z)), if_neg e2]
    · rw [if_neg e1, if_neg e1]
  · intro m b _
    show hX11_floorWith_5 (m + 1) (nI a) b (nI n) X Z = _
    rw [hX11_floorWith_5, hl, if_pos (pz_nn n), if_pos (pz_in ha h6), pu_ix a (by omega), hq_emp h ha (sl a (by omega)).2.2.2.2.2.2.1]
    simp only [Option.bind_some]
    rw [h.num (i := 8) (by omega) (by omega)]
    by_cases e : Y 6 a 0 = 0
    · rw [decide_eq_true e, b2_t, if_neg (by decide), if_pos e]
    · rw [decide_eq_false e, b2_f, if_pos rfl, if_neg e]
theorem itF_two {σ τ : Type} {f : Nat → σ → σ} {g : Nat → τ → τ} {N : Nat} (R : Nat → σ → τ → Prop) (hs : ∀ k a b, k < N → R k a b → R (k + 1) (f k a) (g k b)) : ∀ d k a b, k + d = N → R k a b → R N (itF f d k a) (itF g d k b) := by
  intro d
  induction d with
  | zero => intro k a b hk h; obtain rfl : k = N := (by omega); exact h
  | succ d ih => intro k a b hk h; exact ih (k + 1) _ _ (by omega) (hs k a b (by omega) h)
theorem bsMin_nI {a b : Nat} (ha : a < 2147483648) (hb : b < 2147483648) : bsMin (nI a) (nI b) = nI (min a b) := by
  unfold bsMin
  by_cases c : b < a
  · rw [if_pos ((pu_lt b a ha hb).mpr c), Nat.min_eq_right (by omega)]
  · rw [if_neg (fun z => c ((pu_lt b a ha hb).mp z)), Nat.min_eq_left (by omega)]
theorem hq_floor {n a : Nat} {X : bsX} {Y Z : pY} (h6 : n ≤ 6) (sl : ∀ k, k < 6 → wS Y k) (hi : ∀ k, n ≤ k → k < 6 → Y 6 k 0 = 0) (h : rl n Y Z) (ha : a < n) : hX11_floorWith (nI a) X Z = some (if Y 6 a 0 = 0 then Y 0 0 8 else sFloorBy (nI a) Y, X, Z) := by
  rw [hq_fl0 h6 sl h ha]
  by_cases e : Y 6 a 0 = 0
  · rw [if_pos e, if_pos e]
  · rw [if_neg e, if_neg e]
    have hgood : ∀ k, k < 6 → ¬ Y 5 k 4 = 0 → ¬ Y 6 k 0 = 0 := fun k hk g z => g ((sl k hk).2.2.2.2.2.2.2.2.2 z).2.2.1
    have hcut : itF (sFbg (nI a) Y) 6 0 ((99 : Int32), (0 : Int32)) = itF (sFbg (nI a) Y) n 0 ((99 : Int32), (0 : Int32)) := itF_6 h6 (fun k b h1 h2 => by
      unfold sFbg
      rw [if_neg]
      rintro (g | g)
      · exact hgood k h2 g (hi k h1 h2)
      · have := (pu_eq k a (by omega) (by omega)).mp g; omega) _
    have key := itF_two (f := hFl a Z) (g := sFbg (nI a) Y) (N := n) (fun k L b => (b.2 = 0 ∧ L = 100 ∧ b.1 = 99 ∧ k ≤ a) ∨ (b.2 = 1 ∧ L = b.1 ∧ ∃ v, v ≤ 99 ∧ L = nI v)) ?_ n 0 100 ((99 : Int32), (0 : Int32)) (by omega) (Or.inl ⟨rfl, rfl, rfl, Nat.zero_le _⟩)
    · rcases key with ⟨_, _, _, z⟩ | ⟨z1, z2, _⟩
      · omega
      · unfold sFloorBy
        rw [hcut]
        try dsimp only
        rw [z1, if_neg (by decide), z2]
    · intro k L b hk hR
      obtain ⟨v, _, hv, ev⟩ := (sl k (by omega)).2.2.2.2.2.2.1
      have c := pu_eq k a (by omega) (by omega)
      by_cases g : ¬ Y 5 k 4 = 0 ∨ nI k = nI a
      · have hne : ¬ Y 6 k 0 = 0 := by
          rcases g with g | g
          · exact hgood k (by omega) g
          · rw [c.mp g]; exact e
        have e1 : hFl a Z k L = bsMin L (Y 6 k 1) := by
          unfold hFl
          rw [h.sl hk (i := 4) (by omega) (by omega), h.im hk hne (i := 1) (by omega) (by omega)]
          by_cases g2 : Y 5 k 4 = 0
          · rw [if_pos g2, if_pos (c.mp (g.resolve_left (fun z => z g2)))]
          · rw [if_neg g2]
        have e2 : sFbg (nI a) Y k b = (bsMin b.1 (Y 6 k 1), 1) := by unfold sFbg; exact if_pos g
        right
        rw [e1, e2, ev]
        rcases hR with ⟨_, r1, r2, _⟩ | ⟨_, r1, w, r2, r3⟩
        · rw [r1, r2, show (100 : Int32) = nI 100 from rfl, show (99 : Int32) = nI 99 from rfl]
          refine ⟨rfl, ?_, v, hv, ?_⟩
          · show bsMin (nI 100) (nI v) = bsMin (nI 99) (nI v)
            rw [bsMin_nI (by omega) (by omega), bsMin_nI (by omega) (by omega)]; congr 1; omega
          · rw [bsMin_nI (by omega) (by omega)]; congr 1; omega
        · refine ⟨rfl, by rw [r1], min w v, by omega, ?_⟩
          rw [r3, bsMin_nI (by omega) (by omega)]
      · have g1 : Y 5 k 4 = 0 := Decidable.not_not.mp fun z => g (Or.inl z)
        have g2 : ¬ nI k = nI a := fun z => g (Or.inr z)
        have e1 : hFl a Z k L = L := by
          unfold hFl
          rw [h.sl hk (i := 4) (by omega) (by omega), if_pos g1, if_neg (fun z => g2 (c.mpr z))]
        have e2 : sFbg (nI a) Y k b = b := by unfold sFbg; exact if_neg g
        rw [e1, e2]
        rcases hR with ⟨r0, r1, r2, r3⟩ | r
        · left; refine ⟨r0, r1, r2, ?_⟩
          have : k ≠ a := fun z => g2 (by rw [z])
          omega
        · right; exact r
/-- count -/
theorem hq_count {Q n t : Nat} {X : bsX} {Y Z : pY} (hw : wm Q n t Y) (h : rl n Y Z) : hL_count 9 X Z = some (sCnt (sBoot Y), X, Z) ∧ hL_count 10 X Z = some (sCnt (fun k => Y 5 k 4 ≠ 0), X, Z) ∧ hL_count 11 X Z = some (sSum (fun k => Y 5 k 3), X, Z) := by
  have h6 := hw.hn
  have hl := h.pn h6
  have hz : ∀ k, n ≤ k → k < 6 → Y 5 k 4 = 0 ∧ Y 5 k 3 = 0 := fun k h1 h2 => by
    have := (hw.sl k h2).2.2.2.2.2.2.2.2.2 (hw.hi k h1 h2).1
    exact ⟨this.2.2.1, this.2.1⟩
  refine ⟨?_, ?_, ?_⟩
  · unfold hL_count sCnt
    rw [itF_6 h6 (fun k a h1 h2 => by rw [show sBoot Y k = false from hw.nb h1 h2]; rfl) 0]
    refine (pu_loop (N := n) (fun m k b => hL_count_4 m 9 b (nI k) X Z) (fun k n => if sBoot Y k then n + 1 else n) (fun b => (b, X, Z)) (fun _ _ => True) ?_ ?_ n 0 8 0 (by omega) (by omega) trivial).1
    · intro m k b hk _
      refine ⟨?_, trivial⟩
      show hL_count_4 (m + 1) 9 b (nI k) X Z = hL_count_4 m 9 (if sBoot Y k then b + 1 else b) (nI (k + 1)) X Z
      rw [hL_count_4, hl, if_neg (pz_le hk h6), if_pos rfl, hq_why hw h hk]
      simp only [Option.bind_some]
      unfold hL_count_71
      rw [pu_succ]
      by_cases e : sWhy Y k = 0
      · rw [if_pos e, if_pos ((hq_boot0 (Q := Q) hw (by omega)).mp e)]
      · rw [if_neg e, if_neg (fun z => e ((hq_boot0 (Q := Q) hw (by omega)).mpr z)), Int32.add_zero]
    · intro m b _
      show hL_count_4 (m + 1) 9 b (nI n) X Z = _
      rw [hL_count_4, hl, if_pos (pz_nn n)]
  · unfold hL_count sCnt
    rw [itF_6 h6 (fun k a h1 h2 => if_neg (by show ¬ decide (Y 5 k 4 ≠ 0) = true; rw [(hz k h1 h2).1]; decide)) 0]
    refine (pu_loop (N := n) (fun m k b => hL_count_4 m 10 b (nI k) X Z) (fun k n => if decide (Y 5 k 4 ≠ 0) = true then n + 1 else n) (fun b => (b, X, Z)) (fun _ _ => True) ?_ ?_ n 0 8 0 (by omega) (by omega) trivial).1
    · intro m k b hk _
      refine ⟨?_, trivial⟩
      show hL_count_4 (m + 1) 10 b (nI k) X Z = hL_count_4 m 10 (if decide (Y 5 k 4 ≠ 0) = true then b + 1 else b) (nI (k + 1)) X Z
      rw [hL_count_4, hl, if_neg (pz_le hk h6), if_neg (by decide), if_pos rfl, if_pos (pz_in hk h6), pu_ix k (by omega), h.sl hk (i := 4) (by omega) (by omega)]
      unfold hL_count_71
      rw [pu_succ]
      by_cases e : Y 5 k 4 = 0
      · rw [if_pos e, Int32.add_zero]; simp [e]
      · rw [if_neg e]; simp [e]
    · intro m b _
      show hL_count_4 (m + 1) 10 b (nI n) X Z = _
      rw [hL_count_4, hl, if_pos (pz_nn n)]
  · unfold hL_count sSum
    rw [itF_6 h6 (fun k a h1 h2 => by show a + Y 5 k 3 = a; rw [(hz k h1 h2).2, Int32.add_zero]) 0]
    refine (pu_loop (N := n) (fun m k b => hL_count_4 m 11 b (nI k) X Z) (fun k n => n + Y 5 k 3) (fun b => (b, X, Z)) (fun _ _ => True) ?_ ?_ n 0 8 0 (by omega) (by omega) trivial).1
    · intro m k b hk _
      refine ⟨?_, trivial⟩
      show hL_count_4 (m + 1) 11 b (nI k) X Z = hL_count_4 m 11 (b + Y 5 k 3) (nI (k + 1)) X Z
      rw [hL_count_4, hl, if_neg (pz_le hk h6), if_neg (by decide), if_neg (by decide), if_pos (pz_in hk h6), pu_ix k (by omega), h.sl hk (i := 3) (by omega) (by omega)]
      unfold hL_count_71
      rw [pu_succ]
    · intro m b _
      show hL_count_4 (m + 1) 11 b (nI n) X Z = _
      rw [hL_count_4, hl, if_pos (pz_nn n)]
