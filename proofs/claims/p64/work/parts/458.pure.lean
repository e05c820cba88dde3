/-! WORLD(DRAWS): its second loop -/
abbrev wiK : Type := (Nat → Nat) → Nat → Int32 → bsX → pY → Nat → Option (Int32 × bsX × pY × Nat × (Nat → Nat) × Nat)
theorem wi_581 {xs : Nat → Int32} {L : Nat} {K : wiK} {t : Nat → Nat} {n u1 D : Nat} {x2 : Int32} {X : bsX} {Z : pY} (h : n + stN u1 ≤ 512) : hX11_init_581 xs L K t n x2 u1 X Z D = K (sb_cat t n (stT u1)) (n + stN u1) (x2 + 1) X Z D := by
  unfold hX11_init_581 hX11_init_585
  rw [if_pos h]
theorem wi_527 {xs : Nat → Int32} {L : Nat} {K : wiK} {t : Nat → Nat} {n k p r D : Nat} {g : Bool} {X : bsX} {Z : pY} (hk : k < 6) (hn : n + 60 ≤ 512) (e2 : Z 5 k 2 = nI p) (hp : p ≤ 15) (e3 : Z 5 k 3 = nI r) (hr : r ≤ 7) :
    ∃ t' n', hX11_init_527 xs L K t n (nI k) k k (b2 g) X Z D = K t' n' (nI k + 1) X (wr Z 5 k 4 (b2 g)) D ∧ tl t' n' = tl t n ++ ((((wrd 12 ++ fld k) ++ fld p) ++ fld r) ++ OW g 6) := by
  have s17 : stN 17 = 6 := rfl
  have s16 : stN 16 = 0 := rfl
  have s13 : stN 13 = 5 := rfl
  have w13 : wrd 13 = [32] ++ wrd 6 := by decide
  have gj := (sb_dg_in k).2
  have gp := (sb_dg_in p).2
  have gr := (sb_dg_in r).2
  have dj := tl_dec (k := k) (by omega)
  have dp := tl_dec (k := p) (by omega)
  have dr := tl_dec (k := r) (by omega)
  have f2 : (wr Z 5 k 4 (b2 g)) 5 k 2 = nI p := by rw [wr_y _ _ _ _ _ (by omega)]; exact e2
  have f3 : (wr Z 5 k 4 (b2 g)) 5 k 3 = nI r := by rw [wr_y _ _ _ _ _ (by omega)]; exact e3
  unfold hX11_init_527
  rw [f2, f3, wr_s, pu_ix k (by omega), pu_ix p (by omega), pu_ix r (by omega), if_pos (show b2 g = 0 ∨ b2 g = 1 by cases g <;> decide)]
  rw [if_pos (by omega), if_pos (nn_nI (by omega)), if_pos (by omega), if_pos (by omega), if_pos (nn_nI (by omega)), if_pos (by omega), if_pos (by omega), if_pos (nn_nI (by omega)), if_pos (by omega)]
  cases g
  · rw [if_pos (show b2 false = 0 from rfl), wi_581 (by omega)]
    refine ⟨_, _, rfl, ?_⟩
    simp only [tl_cat, tl_17, tl_c32, dj, dp, dr, tl_16, fld, OW, List.append_assoc, List.cons_append, List.nil_append, List.append_nil, Bool.false_eq_true, if_false]
  · rw [if_neg (show ¬ b2 true = 0 by decide), wi_581 (by omega)]
    refine ⟨_, _, rfl, ?_⟩
    simp only [tl_cat, tl_17, tl_c32, dj, dp, dr, tl_13, fld, OW, w13, List.append_assoc, List.cons_append, List.nil_append, List.append_nil, if_true]
theorem wi_495 {xs : Nat → Int32} {L : Nat} {K : wiK} {t : Nat → Nat} {n k D : Nat} {y3 : Int32} {X : bsX} {Z : pY} (hk : k < 6) (hn : n + 60 ≤ 512) (hy : y3 = nI 15 ∨ y3 = nI 3) (hD : D + 3 < 1000000) :
    ∃ t' n' p r g, p ≤ 15 ∧ r ≤ 7 ∧ hX11_init_495 xs L K t n (nI k) k k 0 y3 X Z D = K t' n' (nI k + 1) X (wr (wr (wr Z 5 k 2 (nI p)) 5 k 3 (nI r)) 5 k 4 (b2 g)) (D + 1 + 1 + 1) ∧ tl t' n' = tl t n ++ ((((wrd 12 ++ fld k) ++ fld p) ++ fld r) ++ OW g 6) := by
  obtain ⟨p, p15, ep⟩ : ∃ p, p ≤ 15 ∧ dVal xs L D 0 y3 = nI p := by
    rcases hy with rfl | rfl
    · obtain ⟨p, _, a, b⟩ := dv_in xs L D 0 15 (by omega) (by omega)
      exact ⟨p, a, b⟩
    · obtain ⟨p, _, a, b⟩ := dv_in xs L D 0 3 (by omega) (by omega)
      exact ⟨p, by omega, b⟩
  obtain ⟨r, _, r7, er⟩ := dv_in xs L (D + 1) 0 7 (by omega) (by omega)
  have er' : dVal xs L (D + 1) (0 : Int32) (7 : Int32) = nI r := er
  have hz : ¬ y3 - 0 + 1 = 0 := by rcases hy with rfl | rfl <;> decide
  have q2 : (wr (wr Z 5 k 2 (nI p)) 5 k 3 (nI r)) 5 k 2 = nI p := by rw [wr_y _ _ _ _ _ (by omega), wr_s]
  have q3 : (wr (wr Z 5 k 2 (nI p)) 5 k 3 (nI r)) 5 k 3 = nI r := wr_s _ _ _ _ _
  unfold hX11_init_495
  rw [if_pos hz, if_pos (show D < 1000000 by omega), if_pos (show D + 1 < 1000000 by omega), if_pos (show D + 1 + 1 < 1000000 by omega), ep, er']
  by_cases c : dVal xs L (D + 1 + 1) (0 : Int32) (2 : Int32) = 0
  · rw [if_pos c]
    obtain ⟨t', n', h1, h2⟩ := wi_527 (xs := xs) (L := L) (K := K) (t := t) (n := n) (D := D + 1 + 1 + 1) (g := true) (X := X) hk hn q2 p15 q3 r7
    exact ⟨t', n', p, r, true, p15, r7, h1, h2⟩
  · rw [if_neg c]
    obtain ⟨t', n', h1, h2⟩ := wi_527 (xs := xs) (L := L) (K := K) (t := t) (n := n) (D := D + 1 + 1 + 1) (g := false) (X := X) hk hn q2 p15 q3 r7
    exact ⟨t', n', p, r, false, p15, r7, h1, h2⟩
/-- what is drawn behind an image: nothing, or a mark -/
def afT (k : Nat) (o : Option (Nat × Nat × Bool)) : List Int32 := match o with | none => [] | some (p, r, g) => (((wrd 12 ++ fld k) ++ fld p) ++ fld r) ++ OW g 6
def afZ (k : Nat) (o : Option (Nat × Nat × Bool)) (Z : pY) : pY := match o with | none => Z | some (p, r, g) => wr (wr (wr Z 5 k 2 (nI p)) 5 k 3 (nI r)) 5 k 4 (b2 g)
def afO (o : Option (Nat × Nat × Bool)) : Prop := ∀ p r g, o = some (p, r, g) → p ≤ 15 ∧ r ≤ 7
theorem wi_461 {xs : Nat → Int32} {L : Nat} {K : wiK} {t : Nat → Nat} {n k u1 D : Nat} {X : bsX} {Z : pY} (hk : k < 6) (hu : stN u1 ≤ 9) (hn : n + 69 ≤ 512) (hD : D + 5 < 1000000) :
    ∃ t' n' D' o, afO o ∧ D' ≤ D + 5 ∧ hX11_init_461 xs L K t n (nI k) k u1 X Z D = K t' n' (nI k + 1) X (afZ k o Z) D' ∧ tl t' n' = tl t n ++ (tl (stT u1) (stN u1) ++ afT k o) := by
  unfold hX11_init_461
  rw [if_pos (by omega), if_pos (by omega)]
  by_cases c : dVal xs L D (0 : Int32) (3 : Int32) = 0
  · rw [if_pos c]
    unfold hX11_init_585
    refine ⟨_, _, D + 1, none, (fun p r g e => by cases e), by omega, rfl, ?_⟩
    rw [tl_cat]
    show _ = tl t n ++ (tl (stT u1) (stN u1) ++ [])
    rw [List.append_nil]
  · rw [if_neg c, if_pos (by omega)]
    have go : ∀ y3, (y3 = nI 15 ∨ y3 = nI 3) → ∃ t' n' D' o, afO o ∧ D' ≤ D + 5 ∧ hX11_init_495 xs L K (sb_cat t n (stT u1)) (n + stN u1) (nI k) k k 0 y3 X Z (D + 1 + 1) = K t' n' (nI k + 1) X (afZ k o Z) D' ∧ tl t' n' = tl t n ++ (tl (stT u1) (stN u1) ++ afT k o) := by
      intro y3 hy
      obtain ⟨t', n', p, r, g, p15, r7, h1, h2⟩ := wi_495 (xs := xs) (L := L) (K := K) (t := sb_cat t n (stT u1)) (n := n + stN u1) (D := D + 1 + 1) (X := X) (Z := Z) hk (by omega) hy (by omega)
      refine ⟨t', n', D + 1 + 1 + 1 + 1 + 1, some (p, r, g), fun p' r' g' e => ?_, by omega, h1, ?_⟩
      · cases e
        exact ⟨p15, r7⟩
      · rw [h2, tl_cat, List.append_assoc]
        rfl
    by_cases c2 : dVal xs L (D + 1) (0 : Int32) (1 : Int32) = 0
    · rw [if_pos c2]
      exact go 15 (Or.inl rfl)
    · rw [if_neg c2]
      exact go 3 (Or.inr rfl)
theorem wi_441 {xs : Nat → Int32} {L : Nat} {K : wiK} {t : Nat → Nat} {n k u1 D : Nat} {d : Bool} {X : bsX} {Z : pY} (hk : k < 6) (hu : stN u1 ≤ 9) (hn : n + 78 ≤ 512) (hD : D + 5 < 1000000) (hd : Z 6 k 5 = b2 d) :
    ∃ t' n' D' o, afO o ∧ D' ≤ D + 5 ∧ hX11_init_441 xs L K t n (nI k) k u1 X Z D = K t' n' (nI k + 1) X (afZ k o Z) D' ∧ tl t' n' = tl t n ++ (tl (stT u1) (stN u1) ++ (OW d 4 ++ afT k o)) := by
  have s16 : stN 16 = 0 := rfl
  have s11 : stN 11 = 8 := rfl
  have w11 : wrd 11 = [32] ++ wrd 4 := by decide
  unfold hX11_init_441
  rw [if_pos (by omega), hd]
  cases d
  · rw [if_neg (show ¬ b2 false = 1 by decide)]
    obtain ⟨t', n', D', o, h0, h3, h1, h2⟩ := wi_461 (xs := xs) (L := L) (K := K) (t := sb_cat t n (stT u1)) (n := n + stN u1) (u1 := 16) (D := D) (X := X) (Z := Z) hk (by omega) (by omega) hD
    refine ⟨t', n', D', o, h0, h3, h1, ?_⟩
    rw [h2, tl_cat, tl_16, List.append_assoc]
    rfl
  · rw [if_pos (show b2 true = 1 from rfl)]
    obtain ⟨t', n', D', o, h0, h3, h1, h2⟩ := wi_461 (xs := xs) (L := L) (K := K) (t := sb_cat t n (stT u1)) (n := n + stN u1) (u1 := 11) (D := D) (X := X) (Z := Z) hk (by omega) (by omega) hD
    refine ⟨t', n', D', o, h0, h3, h1, ?_⟩
    rw [h2, tl_cat, tl_11, w11, List.append_assoc]
    rfl
/-- an image in place k -/
def zImg5 (k v s c : Nat) (u d : Bool) (Z : pY) : pY := wr (wr (wr (wr (wr (wr (wr Z 6 k 1 (nI v)) 6 k 2 (nI s)) 6 k 3 (nI c)) 6 k 4 (b2 u)) 6 k 5 (b2 d)) 5 k 2 1) 5 k 3 1
theorem wi_355 {xs : Nat → Int32} {L : Nat} {K : wiK} {t : Nat → Nat} {n k v s c D : Nat} {u d : Bool} {f1 : Nat → Int32} {X : bsX} {Z : pY} (hk : k < 6) (hn : n + 150 ≤ 512) (hD : D + 5 < 1000000) (hf0 : f1 0 = nI v) (hv : v < 100) (hf1 : f1 1 = nI s) (hs : s < 100) (hf2 : f1 2 = nI c) (hc : c < 100) (hf3 : f1 3 = b2 u) :
    ∃ t' n' D' o, afO o ∧ D' ≤ D + 5 ∧ hX11_init_355 xs L K t n (nI k) k k f1 4 (b2 d) X Z D = K t' n' (nI k + 1) X (afZ k o (zImg5 k v s c u d Z)) D' ∧ tl t' n' = tl t n ++ ((((((wrd 9 ++ fld k) ++ fld v) ++ fld s) ++ fld c) ++ OW u 3) ++ (OW d 4 ++ afT k o)) := by
  have s15 : stN 15 = 7 := rfl
  have s16 : stN 16 = 0 := rfl
  have s10 : stN 10 = 9 := rfl
  have w10 : wrd 10 = [32] ++ wrd 3 := by decide
  have gj := (sb_dg_in k).2
  have gv := (sb_dg_in v).2
  have gs := (sb_dg_in s).2
  have gc := (sb_dg_in c).2
  have dj := tl_dec (k := k) (by omega)
  have dv := tl_dec (k := v) (by omega)
  have ds := tl_dec (k := s) (by omega)
  have dc := tl_dec (k := c) (by omega)
  have b4 : bsIx (4 : Int32) = 4 := by decide
  have eZ : wr (wr (zIm (upd f1 (bsIx 4) (b2 d)) k Z) 5 k 2 1) 5 k 3 1 = zImg5 k v s c u d Z := by
    unfold zIm zImg5
    rw [b4]
    simp only [upd, hf0, hf1, hf2, hf3, show ((0 : Nat) = 4) = False from eq_false (by decide), show ((1 : Nat) = 4) = False from eq_false (by decide), show ((2 : Nat) = 4) = False from eq_false (by decide), show ((3 : Nat) = 4) = False from eq_false (by decide), if_false, if_true]
  have z1 : zImg5 k v s c u d Z 6 k 1 = nI v := by simp [zImg5, wr_rd]
  have z2 : zImg5 k v s c u d Z 6 k 2 = nI s := by simp [zImg5, wr_rd]
  have z3 : zImg5 k v s c u d Z 6 k 3 = nI c := by simp [zImg5, wr_rd]
  have z4 : zImg5 k v s c u d Z 6 k 4 = b2 u := by simp [zImg5, wr_rd]
  have z5 : zImg5 k v s c u d Z 6 k 5 = b2 d := by simp [zImg5, wr_rd]
  unfold hX11_init_355
  rw [if_pos (show bsIn (4 : Int32) 5 by decide), eZ, z1, z2, z3, z4, pu_ix k (by omega), pu_ix v (by omega), pu_ix s (by omega), pu_ix c (by omega)]
  rw [if_pos (by omega), if_pos (nn_nI (by omega)), if_pos (by omega), if_pos (by omega), if_pos (nn_nI (by omega)), if_pos (by omega), if_pos (by omega), if_pos (nn_nI (by omega)), if_pos (by omega), if_pos (by omega), if_pos (nn_nI (by omega)), if_pos (by omega)]
  cases u
  · rw [if_neg (show ¬ b2 false = 1 by decide)]
    refine Exists.elim (wi_441 (xs := xs) (L := L) (K := K) (u1 := 16) (D := D) (X := X) hk (by omega) ?_ hD z5) (fun t' h => Exists.elim h (fun n' h => Exists.elim h (fun D' h => Exists.elim h (fun o h => ⟨t', n', D', o, h.1, h.2.1, h.2.2.1, ?_⟩))))
    · omega
    · rw [h.2.2.2]
      simp only [tl_cat, tl_15, tl_16, tl_c32, dj, dv, ds, dc, fld, OW, List.append_assoc, List.cons_append, List.nil_append, List.append_nil, Bool.false_eq_true, if_false]
  · rw [if_pos (show b2 true = 1 from rfl)]
    refine Exists.elim (wi_441 (xs := xs) (L := L) (K := K) (u1 := 10) (D := D) (X := X) hk (by omega) ?_ hD z5) (fun t' h => Exists.elim h (fun n' h => Exists.elim h (fun D' h => Exists.elim h (fun o h => ⟨t', n', D', o, h.1, h.2.1, h.2.2.1, ?_⟩))))
    · omega
    · rw [h.2.2.2, tl_10, w10]
      simp only [tl_cat, tl_15, tl_c32, dj, dv, ds, dc, fld, OW, List.append_assoc, List.cons_append, List.nil_append, List.append_nil, if_true]
